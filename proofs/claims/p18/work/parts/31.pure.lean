/-- the river's numbers -/
def okr (w p : Nat → Int32) (nw : Nat) : Prop := (∀ i, i < 5 → 0 ≤ w i ∧ w i ≤ 6) ∧ ∀ i, i < nw → 1 ≤ p i ∧ p i ≤ 199
/-- a boat's numbers -/
def okb (c : Nat → Int32) : Prop := (1 ≤ c 1 ∧ c 1 ≤ 6) ∧ (0 ≤ c 2 ∧ c 2 ≤ 8) ∧ (0 ≤ c 3 ∧ c 3 ≤ 200) ∧ p_lane (c 4) ∧ (-4 ≤ c 5 ∧ c 5 ≤ 4) ∧ (0 ≤ c 6 ∧ c 6 ≤ 30) ∧ ((c 8 = 0 ∧ c 9 = 0) ∨ (c 8 = 1 ∧ ¬ c 9 = -1))
theorem rng_of {x : Int32} {n : Nat} (h : 0 ≤ x ∧ x ≤ nI n) (hn : n < 2 ^ 31) : ∃ i : Nat, i ≤ n ∧ x = nI i := le_nat h.1 h.2 hn
theorem hd_of {x : Int32} (h : -4 ≤ x ∧ x ≤ 4) : ∃ i : Nat, i < 9 ∧ x = nI i - 4 := by
  have h0 : 0 ≤ (x + 4).toInt ∧ (x + 4).toInt ≤ 8 := by
    have e := fb_addI (x := x) (y := 4)
    rw [fa_le, fa_le] at h
    have e4 : (4 : Int32).toInt = 4 := by decide
    have em : (-4 : Int32).toInt = -4 := by decide
    rw [e (by omega) (by omega)]
    omega
  obtain ⟨i, hi, hx⟩ := le_nat (x := x + 4) (n := 8) (by rw [fa_le]; have : (0 : Int32).toInt = 0 := by decide
                                                         omega) (by rw [fa_le]; have : (nI 8).toInt = 8 := by decide
                                                                    omega) (by omega)
  refine ⟨i, by omega, ?_⟩
  rw [← hx]
  simp
theorem dec_push : ∀ s, s < 9 → ∀ k, k < 31 → (0 ≤ p_max 0 (nI s - nI k / 6) ∧ p_max 0 (nI s - nI k / 6) ≤ 8) ∧ (0 ≤ p_max 0 (nI s / 2 - nI k / 6) ∧ p_max 0 (nI s / 2 - nI k / 6) ≤ 8) ∧ (0 ≤ p_max 0 (0 - nI k / 6) ∧ p_max 0 (0 - nI k / 6) ≤ 8) := by decide +kernel
theorem force_rng {c : Nat → Int32} (h2 : 0 ≤ c 2 ∧ c 2 ≤ 8) (h6 : 0 ≤ c 6 ∧ c 6 ≤ 30) (k : Int32) : 0 ≤ p_force c k ∧ p_force c k ≤ 8 := by
  obtain ⟨s, hs, es⟩ := rng_of (n := 8) h2 (by omega)
  obtain ⟨q, hq, eq⟩ := rng_of (n := 30) h6 (by omega)
  obtain ⟨d1, d2, d3⟩ := dec_push s (by omega) q (by omega)
  unfold p_force p_push
  rw [es, eq]
  split
  · decide
  · split
    · exact d1
    · split
      · exact d3
      · exact d2
theorem dec_way : ∀ f, f < 9 → ∀ h, h < 9 → ∀ w, w < 7 → ∃ q, q < 15 ∧ nI f * (4 - p_abs (nI h - 4)) / 4 + nI w = nI q := by decide +kernel
theorem way_rng {w c : Nat → Int32} {f : Int32} (hw : ∀ i, i < 5 → 0 ≤ w i ∧ w i ≤ 6) (hl : p_lane (c 4)) (h5 : -4 ≤ c 5 ∧ c 5 ≤ 4) (hf : 0 ≤ f ∧ f ≤ 8) : ∃ q, q < 15 ∧ p_way w c f = nI q := by
  obtain ⟨s, hs, es⟩ := rng_of (n := 8) hf (by omega)
  obtain ⟨h, hh, eh⟩ := hd_of h5
  have hx := lane_ix hl
  obtain ⟨i, hi, ei⟩ := vp_in_of hx (by omega)
  obtain ⟨u, hu, eu⟩ := rng_of (n := 6) (hw i hi) (by omega)
  unfold p_way
  rw [es, eh, ei, nI_clamp (by omega), eu]
  exact dec_way s (by omega) h hh u (by omega)
theorem stop_rng {p g : Nat → Int32} {fr to ln : Int32} : ∀ {n : Nat}, (∀ i, i < n → 1 ≤ p i ∧ p i ≤ 199) → p_stop p g fr to ln n = -1 ∨ (1 ≤ p_stop p g fr to ln n ∧ p_stop p g fr to ln n ≤ 199)
  | 0, _ => Or.inl rfl
  | n + 1, h => by
    rw [p_stop]
    split
    · exact Or.inr (h n (by omega))
    · exact stop_rng (fun i hi => h i (by omega))
theorem dec_min : ∀ a, a < 201 → ∀ q, q < 15 → 0 ≤ p_min (nI a + nI q) 200 ∧ p_min (nI a + nI q) 200 ≤ 200 := by decide +kernel
theorem dec_soak : ∀ a, a < 31 → (0 ≤ p_min (nI a + 5) 30 ∧ p_min (nI a + 5) 30 ≤ 30) ∧ (0 ≤ p_min (nI a + 1) 30 ∧ p_min (nI a + 1) 30 ≤ 30) := by decide +kernel
theorem dec_head : ∀ h, h < 9 → (-5 ≤ nI h - 4 + 1 ∧ nI h - 4 + 1 ≤ 5) ∧ (-5 ≤ nI h - 4 - 1 ∧ nI h - 4 - 1 ≤ 5) ∧ (-5 ≤ nI h - 4 ∧ nI h - 4 ≤ 5) := by decide +kernel
theorem dec_spun : ∀ h, h < 11 → ((p_abs (nI h - 5) = 5 ↔ p_spun (nI h - 5)) ∧ (¬ p_spun (nI h - 5) → -4 ≤ nI h - 5 ∧ nI h - 5 ≤ 4)) := by decide +kernel
theorem head_rng {h k : Int32} (hh : -4 ≤ h ∧ h ≤ 4) : -5 ≤ p_head h k ∧ p_head h k ≤ 5 := by
  obtain ⟨i, hi, rfl⟩ := hd_of hh
  obtain ⟨d1, d2, d3⟩ := dec_head i hi
  unfold p_head
  split
  · exact d1
  · split
    · exact d2
    · exact d3
theorem hd5_of {x : Int32} (h : -5 ≤ x ∧ x ≤ 5) : ∃ i : Nat, i < 11 ∧ x = nI i - 5 := by
  have h0 : 0 ≤ (x + 5).toInt ∧ (x + 5).toInt ≤ 10 := by
    have e := fb_addI (x := x) (y := 5)
    rw [fa_le, fa_le] at h
    have e4 : (5 : Int32).toInt = 5 := by decide
    have em : (-5 : Int32).toInt = -5 := by decide
    rw [e (by omega) (by omega)]
    omega
  obtain ⟨i, hi, hx⟩ := le_nat (x := x + 5) (n := 10) (by rw [fa_le]; have : (0 : Int32).toInt = 0 := by decide
                                                          omega) (by rw [fa_le]; have : (nI 10).toInt = 10 := by decide
                                                                     omega) (by omega)
  refine ⟨i, by omega, ?_⟩
  rw [← hx]
  simp
theorem head_spun {h k : Int32} (hh : -4 ≤ h ∧ h ≤ 4) : (p_abs (p_head h k) = 5 ↔ p_spun (p_head h k)) ∧ (¬ p_spun (p_head h k) → -4 ≤ p_head h k ∧ p_head h k ≤ 4) := by
  obtain ⟨i, hi, e⟩ := hd5_of (head_rng (k := k) hh)
  rw [e]
  exact dec_spun i hi
theorem dec_lane : ∀ a, a < 5 → (p_lane (nI a + 1) ↔ ¬ nI a + 1 < 0 ∧ ¬ nI a + 1 = 5) ∧ (p_lane (nI a - 1) ↔ ¬ nI a - 1 < 0 ∧ ¬ nI a - 1 = 5) ∧ (p_lane (nI a) ↔ ¬ nI a < 0 ∧ ¬ nI a = 5) := by decide +kernel
theorem want_lane {c : Nat → Int32} (h : p_lane (c 4)) : p_lane (p_want c) ↔ ¬ p_want c < 0 ∧ ¬ p_want c = 5 := by
  obtain ⟨i, hi, e⟩ := ix_nat (n := 5) h (by omega)
  obtain ⟨d1, d2, d3⟩ := dec_lane i hi
  unfold p_want
  rw [e]
  split
  · split
    · exact d3
    · exact d2
  · exact d1
theorem drift_lane {c : Nat → Int32} (h : p_lane (c 4)) : p_lane (p_drift c 4) := by
  unfold p_drift
  split
  · rename_i h1; exact h1
  · exact h
theorem turn_5 {c : Nat → Int32} {k : Int32} (h : -4 ≤ c 5 ∧ c 5 ≤ 4) : -4 ≤ p_turn c k 5 ∧ p_turn c k 5 ≤ 4 := by
  unfold p_turn
  split
  · exact (by decide : (-4 : Int32) ≤ 0 ∧ (0 : Int32) ≤ 4)
  · rename_i h1; exact (head_spun h).2 h1
theorem turn_o {c : Nat → Int32} {k : Int32} {q : Nat} (h5 : q ≠ 5) (h10 : q ≠ 10) : p_turn c k q = c q := by
  unfold p_turn
  split
  · rw [va_up_ne _ _ h10, va_up_ne _ _ h5]
  · rw [va_up_ne _ _ h5]
theorem drift_o {c : Nat → Int32} {q : Nat} (h4 : q ≠ 4) (h7 : q ≠ 7) : p_drift c q = c q := by
  unfold p_drift
  split
  · rw [va_up_ne _ _ h4]
  · rw [va_up_ne _ _ h7]
theorem halt_eq {c : Nat → Int32} {x : Int32} : va_up (p_soak (va_up (va_up c 5 0) 11 (c 11 + 1)) 5) 3 x = p_halt c x := by
  funext q
  unfold p_halt p_soak
  by_cases h3 : q = 3
  · subst h3; rfl
  · by_cases h11 : q = 11
    · subst h11; rfl
    · by_cases h6 : q = 6
      · subst h6; rfl
      · by_cases h5 : q = 5
        · subst h5; rfl
        · rw [va_up_ne _ _ h3, va_up_ne _ _ h6, va_up_ne _ _ h11, va_up_ne _ _ h5, va_up_ne _ _ h11, va_up_ne _ _ h6, va_up_ne _ _ h5, va_up_ne _ _ h3]
theorem adv_o {w p g : Nat → Int32} {n : Nat} {c : Nat → Int32} {f : Int32} {q : Nat} (h3 : q ≠ 3) (h5 : q ≠ 5) (h6 : q ≠ 6) (h11 : q ≠ 11) : p_adv w p g n c f q = c q := by
  unfold p_adv
  split
  · split
    · rw [va_up_ne _ _ h3]
    · unfold p_halt p_soak
      rw [va_up_ne _ _ h11, va_up_ne _ _ h6, va_up_ne _ _ h5, va_up_ne _ _ h3]
  · rfl
theorem soak_o {c : Nat → Int32} {x : Int32} {q : Nat} (h6 : q ≠ 6) : p_soak c x q = c q := va_up_ne _ _ h6
theorem wet_o {c : Nat → Int32} {t : Int32} {q : Nat} (h6 : q ≠ 6) : p_wet t c q = c q := by
  unfold p_wet
  split
  · exact soak_o h6
  · rfl
theorem home_o {c : Nat → Int32} {t : Int32} {q : Nat} (h8 : q ≠ 8) (h9 : q ≠ 9) : p_home t c q = c q := by
  unfold p_home
  split
  · rw [va_up_ne _ _ h9, va_up_ne _ _ h8]
  · rfl
theorem soak_rng {c : Nat → Int32} (h : 0 ≤ c 6 ∧ c 6 ≤ 30) : (0 ≤ p_soak c 5 6 ∧ p_soak c 5 6 ≤ 30) ∧ (0 ≤ p_soak c 1 6 ∧ p_soak c 1 6 ≤ 30) := by
  obtain ⟨i, hi, e⟩ := rng_of (n := 30) h (by omega)
  have d := dec_soak i (by omega)
  rw [← e] at d
  exact d
theorem le199 {x : Int32} (h : 1 ≤ x ∧ x ≤ 199) : 0 ≤ x ∧ x ≤ 200 := by
  rw [fa_le, fa_le] at *
  have e1 : (1 : Int32).toInt = 1 := by decide
  have e0 : (0 : Int32).toInt = 0 := by decide
  have e2 : (199 : Int32).toInt = 199 := by decide
  have e3 : (200 : Int32).toInt = 200 := by decide
  omega
/-- a tick keeps a boat's numbers in their ranges -/
theorem okb_tickK {w p g : Nat → Int32} {nw : Nat} {t k : Int32} {c : Nat → Int32} (hr : okr w p nw) (hc : okb c) (h8 : c 8 = 0) (ht : ¬ t = -1) : okb (p_tickK w p g nw t k c) := by
  obtain ⟨h1, h2, h3, h4, h5, h6, h89⟩ := hc
  have hf := force_rng h2 h6 k
  have e1 : ∀ q : Nat, q ≠ 4 → q ≠ 7 → q ≠ 5 → q ≠ 10 → p_drift (p_turn c k) q = c q := fun q a b d e => by rw [drift_o a b, turn_o d e]
  have l4 : p_lane (p_drift (p_turn c k) 4) := drift_lane (by rw [turn_o (by decide) (by decide)]; exact h4)
  have l5 : -4 ≤ p_drift (p_turn c k) 5 ∧ p_drift (p_turn c k) 5 ≤ 4 := by rw [drift_o (by decide) (by decide)]; exact turn_5 h5
  have l6 : 0 ≤ p_drift (p_turn c k) 6 ∧ p_drift (p_turn c k) 6 ≤ 30 := by rw [e1 6 (by decide) (by decide) (by decide) (by decide)]; exact h6
  have l3 : 0 ≤ p_drift (p_turn c k) 3 ∧ p_drift (p_turn c k) 3 ≤ 200 := by rw [e1 3 (by decide) (by decide) (by decide) (by decide)]; exact h3
  generalize hb : p_drift (p_turn c k) = b at *
  obtain ⟨q, hq, eq⟩ := way_rng hr.1 l4 l5 hf
  have a3 : 0 ≤ p_adv w p g nw b (p_force c k) 3 ∧ p_adv w p g nw b (p_force c k) 3 ≤ 200 := by
    unfold p_adv
    rw [if_pos l4]
    split
    · show 0 ≤ p_min (b 3 + p_way w b (p_force c k)) 200 ∧ _
      obtain ⟨i, hi, e⟩ := rng_of (n := 200) l3 (by omega)
      have d := dec_min i (by omega) q hq
      rw [← e, ← eq] at d
      exact d
    · rename_i hne
      show 0 ≤ p_stops w p g nw b (p_force c k) ∧ _
      rcases stop_rng (g := g) (fr := b 3) (to := b 3 + p_way w b (p_force c k)) (ln := b 4) hr.2 with h9 | h9
      · exact absurd h9 hne
      · exact le199 h9
  have a5 : -4 ≤ p_adv w p g nw b (p_force c k) 5 ∧ p_adv w p g nw b (p_force c k) 5 ≤ 4 := by
    unfold p_adv
    rw [if_pos l4]
    split
    · exact l5
    · exact (by decide : (-4 : Int32) ≤ 0 ∧ (0 : Int32) ≤ 4)
  have a6 : 0 ≤ p_adv w p g nw b (p_force c k) 6 ∧ p_adv w p g nw b (p_force c k) 6 ≤ 30 := by
    unfold p_adv
    rw [if_pos l4]
    split
    · exact l6
    · exact (soak_rng (c := va_up (va_up b 3 _) 5 0) l6).1
  have ao : ∀ q : Nat, q ≠ 3 → q ≠ 5 → q ≠ 6 → q ≠ 11 → q ≠ 4 → q ≠ 7 → q ≠ 10 → p_adv w p g nw b (p_force c k) q = c q := fun q a d e f g1 h i => by rw [adv_o a d e f, e1 q g1 h d i]
  have a4 : p_adv w p g nw b (p_force c k) 4 = b 4 := adv_o (by decide) (by decide) (by decide) (by decide)
  have w6 : 0 ≤ p_wet t (p_adv w p g nw b (p_force c k)) 6 ∧ p_wet t (p_adv w p g nw b (p_force c k)) 6 ≤ 30 := by
    unfold p_wet
    split
    · exact (soak_rng a6).2
    · exact a6
  show okb (p_home t (p_wet t (p_adv w p g nw (p_drift (p_turn c k)) (p_force c k))))
  rw [hb]
  refine ⟨?_, ?_, ?_, ?_, ?_, ?_, ?_⟩
  · rw [home_o (by decide) (by decide), wet_o (by decide), ao 1 (by decide) (by decide) (by decide) (by decide) (by decide) (by decide) (by decide)]; exact h1
  · rw [home_o (by decide) (by decide), wet_o (by decide), ao 2 (by decide) (by decide) (by decide) (by decide) (by decide) (by decide) (by decide)]; exact h2
  · rw [home_o (by decide) (by decide), wet_o (by decide)]; exact a3
  · rw [home_o (by decide) (by decide), wet_o (by decide), a4]; exact l4
  · rw [home_o (by decide) (by decide), wet_o (by decide)]; exact a5
  · rw [home_o (by decide) (by decide)]; exact w6
  · unfold p_home
    split
    · exact Or.inr ⟨rfl, ht⟩
    · left
      rw [wet_o (by decide), wet_o (by decide), ao 8 (by decide) (by decide) (by decide) (by decide) (by decide) (by decide) (by decide), ao 9 (by decide) (by decide) (by decide) (by decide) (by decide) (by decide) (by decide)]
      rcases h89 with h9 | h9
      · exact h9
      · exact absurd (h9.1.symm.trans h8) (by decide)
theorem okb_tick {w p g : Nat → Int32} {nw : Nat} {t : Int32} {f c : Nat → Int32} (hr : okr w p nw) (hc : okb c) (ht : ¬ t = -1) : okb (p_tick w p g nw t f c) := by
  unfold p_tick
  split
  · rename_i h8; exact okb_tickK hr hc h8 ht
  · exact hc
theorem nI_m1 {T : Nat} (h : T < 2 ^ 31) : ¬ nI T = -1 := fun e => by
  have h1 := nI_pos' h
  rw [e] at h1
  exact absurd h1 (by decide)
theorem okb_boat {w p g : Nat → Int32} {nw T : Nat} {f c : Nat → Int32} (hr : okr w p nw) (hc : okb c) : ∀ {j : Nat}, T + j < 2 ^ 31 → okb (p_boat w p g nw T f c j)
  | 0, _ => hc
  | j + 1, h => okb_tick hr (okb_boat hr hc (by omega)) (nI_m1 (by omega))

theorem nI_of1 {x : Int32} (h : 1 ≤ x ∧ x ≤ 6) : x = nI x.toNatClampNeg ∧ 0 < x.toNatClampNeg ∧ x.toNatClampNeg ≤ 6 := by
  obtain ⟨i, hi, e⟩ := rng_of (x := x) (n := 6) ⟨by
    rw [fa_le] at *
    have e1 : (1 : Int32).toInt = 1 := by decide
    have e0 : (0 : Int32).toInt = 0 := by decide
    omega, h.2⟩ (by omega)
  subst e
  rw [nI_clamp (by omega)]
  refine ⟨rfl, ?_, hi⟩
  rcases Nat.eq_zero_or_pos i with q | q
  · subst q
    exact absurd h.1 (by decide)
  · exact q
theorem okb_len {c : Nat → Int32} (h : okb c) : c 1 = nI (c 1).toNatClampNeg ∧ 0 < (c 1).toNatClampNeg ∧ (c 1).toNatClampNeg ≤ 6 := nI_of1 h.1
theorem lead_at {B : Nat → Nat → Int32} : ∀ {i : Nat}, (∀ q, q < i → 0 ≤ B q 3) → (p_lead B i).1 = -1 ∧ (p_lead B i).2 = -1 ∨ ∃ q, q < i ∧ (p_lead B i).1 = nI q ∧ (p_lead B i).2 = B q 3
  | 0, _ => Or.inl ⟨rfl, rfl⟩
  | i + 1, h => by
    rw [p_lead]
    split
    · exact Or.inr ⟨i, by omega, rfl, rfl⟩
    · rcases lead_at (i := i) (fun q hq => h q (by omega)) with a | ⟨q, hq, a⟩
      · exact Or.inl a
      · exact Or.inr ⟨q, by omega, a⟩
theorem win_at {B : Nat → Nat → Int32} : ∀ {i : Nat}, (p_win B i).1 = -1 ∨ ∃ q, q < i ∧ (p_win B i).1 = nI q ∧ (p_win B i).2 = p_time (B q)
  | 0 => Or.inl rfl
  | i + 1 => by
    rw [p_win]
    split
    · exact Or.inr ⟨i, by omega, rfl, rfl⟩
    · rcases win_at (B := B) (i := i) with a | ⟨q, hq, a⟩
      · exact Or.inl a
      · exact Or.inr ⟨q, by omega, a⟩

theorem dec_mean : ∀ s, s < 1201 → ∀ n, n < 7 → ¬ n = 0 → (FP.ddiv (FP.i2d (nI s)) (FP.i2d (nI n))) &&& 0x7fffffffffffffff ≤ (0x7ff0000000000000 : UInt64) := by decide +kernel
theorem psum_rng {B : Nat → Nat → Int32} : ∀ {n : Nat}, n ≤ 6 → (∀ i, i < n → 0 ≤ B i 3 ∧ B i 3 ≤ 200) → ∃ s, s ≤ 200 * n ∧ p_psum B n = nI s
  | 0, _, _ => ⟨0, by omega, rfl⟩
  | n + 1, hn, h => by
    obtain ⟨s, hs, e⟩ := psum_rng (n := n) (by omega) (fun i hi => h i (by omega))
    obtain ⟨q, hq, eq⟩ := rng_of (n := 200) (h n (by omega)) (by omega)
    exact ⟨s + q, by omega, by rw [p_psum, e, eq, nI_add]⟩
theorem mean_ok {B : Nat → Nat → Int32} {n : Nat} (hn : n ≤ 6) (h : ∀ i, i < n → 0 ≤ B i 3 ∧ B i 3 ≤ 200) : ¬ nI n < 1 → vf_n64 (FP.ddiv (FP.i2d (p_psum B n)) (FP.i2d (nI n))) := fun h1 => by
  obtain ⟨s, hs, e⟩ := psum_rng hn h
  rw [e]
  exact dec_mean s (by omega) n (by omega) (fun q => by subst q; exact h1 (by decide))
