/-! ===== a tick of the race by hand is the class's tick; what the law says of a tick ===== -/
theorem dec_fs : ∀ s, s < 9 → ∀ k, k < 31 → (if nI k / 6 < nI s then nI s - nI k / 6 else 0) = p_max 0 (nI s - nI k / 6) ∧ (if nI k / 6 < nI s / 2 then nI s / 2 - nI k / 6 else 0) = p_max 0 (nI s / 2 - nI k / 6) ∧ (if nI k / 6 < 0 then 0 - nI k / 6 else 0) = p_max 0 (0 - nI k / 6) := by decide +kernel
/-- the force ahead of the spin -/
def s_force (b : Nat → Int32) (k : Int32) : Int32 := if b 6 / 6 < p_push b k then p_push b k - b 6 / 6 else 0
theorem s_force_eq {b : Nat → Int32} {k : Int32} (h2 : 0 ≤ b 2 ∧ b 2 ≤ 8) (h6 : 0 ≤ b 6 ∧ b 6 ≤ 30) : s_force b k = p_max 0 (p_push b k - b 6 / 6) := by
  obtain ⟨s, hs, es⟩ := rng_of (n := 8) h2 (by omega)
  obtain ⟨q, hq, eq⟩ := rng_of (n := 30) h6 (by omega)
  obtain ⟨d1, d2, d3⟩ := dec_fs s (by omega) q (by omega)
  unfold s_force p_push
  rw [es, eq]
  by_cases c3 : k = 3
  · rw [if_pos c3]; exact d1
  · rw [if_neg c3]
    by_cases c0 : k = 0
    · rw [if_pos c0]; exact d3
    · rw [if_neg c0]; exact d2
theorem s_force_sp {b : Nat → Int32} {k : Int32} (h2 : 0 ≤ b 2 ∧ b 2 ≤ 8) (h6 : 0 ≤ b 6 ∧ b 6 ≤ 30) : (if p_spun (p_head (b 5) k) then 0 else s_force b k) = p_force b k := by
  rw [s_force_eq h2 h6]; rfl
theorem dec_fle : ∀ s, s < 9 → ∀ k, k < 31 → p_max 0 (nI s - nI k / 6) ≤ nI s ∧ p_max 0 (nI s / 2 - nI k / 6) ≤ nI s ∧ p_max 0 (0 - nI k / 6) ≤ nI s ∧ 0 ≤ nI s := by decide +kernel
theorem force_le {b : Nat → Int32} (h2 : 0 ≤ b 2 ∧ b 2 ≤ 8) (h6 : 0 ≤ b 6 ∧ b 6 ≤ 30) (k : Int32) : p_force b k ≤ b 2 := by
  obtain ⟨s, hs, es⟩ := rng_of (n := 8) h2 (by omega)
  obtain ⟨q, hq, eq⟩ := rng_of (n := 30) h6 (by omega)
  obtain ⟨d1, d2, d3, d4⟩ := dec_fle s (by omega) q (by omega)
  unfold p_force p_push
  rw [es, eq]
  split
  · exact d4
  · split
    · exact d1
    · split
      · exact d3
      · exact d2
/-! drift -/
theorem gt1 {x : Int32} : 1 < x ↔ ¬ x < 2 := by
  rw [fa_lt, fa_lt]
  have e1 : (1 : Int32).toInt = 1 := by decide
  have e2 : (2 : Int32).toInt = 2 := by decide
  omega
theorem ltm1 {x : Int32} : x < -1 ↔ ¬ -2 < x := by
  rw [fa_lt, fa_lt]
  have e1 : (-1 : Int32).toInt = -1 := by decide
  have e2 : (-2 : Int32).toInt = -2 := by decide
  omega
theorem not_both {x : Int32} (h : 1 < x) (h2 : x < -1) : False := by
  rw [fa_lt] at h h2
  have e1 : (-1 : Int32).toInt = -1 := by decide
  have e2 : (1 : Int32).toInt = 1 := by decide
  omega
theorem want_up {c : Nat → Int32} (h : 1 < c 5) : p_want c = c 4 + 1 := if_neg (gt1.mp h)
theorem want_dn {c : Nat → Int32} (h : c 5 < -1) : p_want c = c 4 - 1 := by
  unfold p_want
  rw [if_pos, if_neg (ltm1.mp h)]
  by_cases q : c 5 < 2
  · exact q
  · exact (not_both (gt1.mpr q) h).elim
theorem want_no {c : Nat → Int32} (h1 : ¬ 1 < c 5) (h2 : ¬ c 5 < -1) : p_want c = c 4 := by
  unfold p_want
  rw [if_pos, if_pos]
  · by_cases q : -2 < c 5
    · exact q
    · exact absurd (ltm1.mpr q) h2
  · by_cases q : c 5 < 2
    · exact q
    · exact absurd (gt1.mpr q) h1
theorem dec_l4 : ∀ a, a < 5 → (p_lane (nI a + 1) ↔ ¬ nI a = 4) ∧ (p_lane (nI a - 1) ↔ ¬ nI a = 0) := by decide +kernel
theorem lane_up {x : Int32} (h : p_lane x) : p_lane (x + 1) ↔ ¬ x = 4 := by
  obtain ⟨i, hi, e⟩ := ix_nat (n := 5) h (by omega)
  rw [e]; exact (dec_l4 i hi).1
theorem lane_dn {x : Int32} (h : p_lane x) : p_lane (x - 1) ↔ ¬ x = 0 := by
  obtain ⟨i, hi, e⟩ := ix_nat (n := 5) h (by omega)
  rw [e]; exact (dec_l4 i hi).2
section
variable {c : Nat → Int32}
theorem drift_up4 (hl : p_lane (c 4)) (h : 1 < c 5) (e : c 4 = 4) : p_drift c = va_up c 7 (c 7 + 3) := by
  unfold p_drift; rw [want_up h, if_neg (fun q => (lane_up hl).mp q e)]
theorem drift_upn (hl : p_lane (c 4)) (h : 1 < c 5) (e : ¬ c 4 = 4) : p_drift c = va_up c 4 (c 4 + 1) := by
  unfold p_drift; rw [want_up h, if_pos ((lane_up hl).mpr e)]
theorem drift_dn0 (hl : p_lane (c 4)) (h : c 5 < -1) (e : c 4 = 0) : p_drift c = va_up c 7 (c 7 + 3) := by
  unfold p_drift; rw [want_dn h, if_neg (fun q => (lane_dn hl).mp q e)]
theorem drift_dnn (hl : p_lane (c 4)) (h : c 5 < -1) (e : ¬ c 4 = 0) : p_drift c = va_up c 4 (c 4 - 1) := by
  unfold p_drift; rw [want_dn h, if_pos ((lane_dn hl).mpr e)]
theorem drift_non (hl : p_lane (c 4)) (h1 : ¬ 1 < c 5) (h2 : ¬ c 5 < -1) : p_drift c = c := by
  unfold p_drift; rw [want_no h1 h2, if_pos hl, va_up_same]
end
/-! going -/
theorem dec_mw : ∀ P, P < 201 → ∀ W, W < 15 → p_min (nI P + nI W) 200 = nI (min (P + W) 200) := by decide +kernel
theorem min_walk {P W k : Nat} (hP : P + k ≤ 200) (hkW : k ≤ W) (hk : k = W ∨ P + k = 200) (hW : W < 15) : p_min (nI P + nI W) 200 = nI (P + k) := by
  rw [dec_mw P (by omega) W hW]
  congr 1
  omega
theorem dec_m30 : ∀ a, a < 31 → (if nI a + 5 < 30 then nI a + 5 else 30) = p_min (nI a + 5) 30 ∧ (nI a < 30 → nI a + 1 = p_min (nI a + 1) 30) ∧ (¬ nI a < 30 → nI a = p_min (nI a + 1) 30) ∧ nI a ≤ p_min (nI a + 1) 30 ∧ nI a ≤ p_min (nI a + 5) 30 := by decide +kernel
theorem min_30 {x : Int32} (h : 0 ≤ x ∧ x ≤ 30) : (if x + 5 < 30 then x + 5 else 30) = p_min (x + 5) 30 := by
  obtain ⟨q, hq, e⟩ := rng_of (n := 30) h (by omega)
  rw [e]; exact (dec_m30 q (by omega)).1
theorem wet_lt {t : Int32} {b : Nat → Int32} (h : 0 ≤ b 6 ∧ b 6 ≤ 30) (h4 : p_rem t 4 = 0) (hl : b 6 < 30) : p_wet t b = va_up b 6 (b 6 + 1) := by
  obtain ⟨q, hq, e⟩ := rng_of (n := 30) h (by omega)
  unfold p_wet p_soak
  rw [if_pos h4]
  have := (dec_m30 q (by omega)).2.1
  rw [← e] at this
  rw [← this hl]
theorem wet_30 {t : Int32} {b : Nat → Int32} (h : 0 ≤ b 6 ∧ b 6 ≤ 30) (h4 : p_rem t 4 = 0) (hl : ¬ b 6 < 30) : p_wet t b = b := by
  obtain ⟨q, hq, e⟩ := rng_of (n := 30) h (by omega)
  unfold p_wet p_soak
  rw [if_pos h4]
  have := (dec_m30 q (by omega)).2.2.1
  rw [← e] at this
  rw [← this hl, va_up_same]
theorem wet_no {t : Int32} {b : Nat → Int32} (h4 : ¬ p_rem t 4 = 0) : p_wet t b = b := if_neg h4
/-! what the law says of a tick -/
theorem dec_wayL : ∀ f, f < 9 → ∀ h, h < 9 → ∀ w, w < 7 → ∃ q, q < 15 ∧ q ≤ f + w ∧ nI f * (4 - p_abs (nI h - 4)) / 4 + nI w = nI q := by decide +kernel
theorem way_le {w c : Nat → Int32} {f : Int32} {s : Nat} (hw : ∀ i, i < 5 → 0 ≤ w i ∧ w i ≤ 6) (hl : p_lane (c 4)) (h5 : -4 ≤ c 5 ∧ c 5 ≤ 4) (hf : 0 ≤ f ∧ f ≤ nI s) (hs : s ≤ 8) : ∃ q, q < 15 ∧ q ≤ s + 6 ∧ p_way w c f = nI q := by
  obtain ⟨a, ha, ea⟩ := rng_of hf (by omega)
  obtain ⟨h, hh, eh⟩ := hd_of h5
  obtain ⟨i, hi, ei⟩ := vp_in_of (lane_ix hl) (by omega)
  obtain ⟨u, hu, eu⟩ := rng_of (n := 6) (hw i hi) (by omega)
  unfold p_way
  rw [ea, eh, ei, nI_clamp (by omega), eu]
  obtain ⟨q, h1, h2, h3⟩ := dec_wayL a (by omega) h hh u (by omega)
  exact ⟨q, h1, by omega, h3⟩
/-- what going does: to where, past which weirs -/
theorem adv_law {w p g : Nat → Int32} {nw s : Nat} {c : Nat → Int32} {f : Int32} (hv : okv w p g nw) (hl : p_lane (c 4)) (h5 : -4 ≤ c 5 ∧ c 5 ≤ 4) (h3 : 0 ≤ c 3 ∧ c 3 ≤ 200) (hf : 0 ≤ f ∧ f ≤ nI s) (hs : s ≤ 8) :
    ∃ P0 P1 : Nat, c 3 = nI P0 ∧ p_adv w p g nw c f 3 = nI P1 ∧ P0 ≤ P1 ∧ P1 ≤ 200 ∧ P1 ≤ P0 + s + 6 ∧
      ((p_adv w p g nw c f 11 = c 11 ∧ p_adv w p g nw c f 5 = c 5 ∧ p_adv w p g nw c f 6 = c 6 ∧ ∀ q, P0 < q → q ≤ P1 → ¬ vW p g nw q < 0 → vW p g nw q = c 4) ∨
       (p_adv w p g nw c f 11 = c 11 + 1 ∧ p_adv w p g nw c f 5 = 0 ∧ p_adv w p g nw c f 6 = p_min (c 6 + 5) 30 ∧ P0 < P1 ∧ ¬ vW p g nw P1 < 0 ∧ ¬ vW p g nw P1 = c 4 ∧ ∀ q, P0 < q → q < P1 → ¬ vW p g nw q < 0 → vW p g nw q = c 4)) := by
  obtain ⟨P, hP, eP⟩ := rng_of (n := 200) h3 (by omega)
  obtain ⟨W, hW, hWs, eW⟩ := way_le hv.1.1 hl h5 hf hs
  have key : ∀ q, P < q → q ≤ P + W → ∀ i, i < nw → p i = nI q → nI P < p i ∧ p i ≤ nI (P + W) := fun q h1 h2 i hi e => by
    rw [e]
    exact ⟨(nI_ltI (by omega) (by omega)).mpr h1, (nI_leI (by omega) (by omega)).mpr h2⟩
  rcases stop_or (p := p) (g := g) (fr := nI P) (to := nI (P + W)) (ln := c 4) (n := nw) hv.1.2 with ⟨h1, h2⟩ | ⟨i, hi, ei, f1, f2, f3, f4⟩
  · have es : p_stops w p g nw c f = -1 := by unfold p_stops; rw [eP, eW, nI_add]; exact h1
    have ea : p_adv w p g nw c f = va_up c 3 (p_min (c 3 + p_way w c f) 200) := by unfold p_adv; rw [if_pos hl, if_pos es]
    rw [ea]
    refine ⟨P, min (P + W) 200, eP, ?_, by omega, by omega, by omega, Or.inl ⟨rfl, rfl, rfl, fun q a b d => ?_⟩⟩
    · show p_min (c 3 + p_way w c f) 200 = _
      rw [eP, eW, dec_mw P (by omega) W hW]
    · rcases vW_or (p := p) (q := q) hv.2.1 with ⟨i, hi, e1, e2, -⟩ | ⟨-, e⟩
      · rw [e2]
        obtain ⟨k1, k2⟩ := key q a (by omega) i hi e1
        exact h2 i hi k1 k2
      · rw [e] at d; exact absurd (by decide) d
  · obtain ⟨q, hq, eq⟩ := le_nat (x := p i) (n := 199) (one_le (hv.1.2 i hi).1) (hv.1.2 i hi).2 (by omega)
    have es : p_stops w p g nw c f = nI q := by unfold p_stops; rw [eP, eW, nI_add, ei, eq]
    have ea : p_adv w p g nw c f = p_halt c (nI q) := by unfold p_adv; rw [if_pos hl, es, if_neg (fun z => absurd z (nI_m1 (by omega)))]
    rw [eq] at f1 f2
    have a1 : P < q := (nI_ltI (by omega) (by omega)).mp f1
    have b1 : q ≤ P + W := (nI_leI (by omega) (by omega)).mp f2
    have g1 : vW p g nw q = g i := by
      show p_gap p g (nI q) nw = g i
      rw [← eq]
      exact gap_at hv.2.2 hi
    rw [ea]
    refine ⟨P, q, eP, rfl, by omega, by omega, by omega, Or.inr ⟨rfl, rfl, rfl, a1, by rw [g1]; exact lane_nn (hv.2.1 i hi), by rw [g1]; exact f3, fun r a b d => ?_⟩⟩
    rcases vW_or (p := p) (q := r) hv.2.1 with ⟨j, hj, e1, e2, -⟩ | ⟨-, e⟩
    · rw [e2]
      by_cases z : g j = c 4
      · exact z
      · obtain ⟨k1, k2⟩ := key r a (by omega) j hj e1
        have h9 := f4 j hj k1 k2 z
        rw [e1, eq] at h9
        have := (nI_leI (by omega) (by omega)).mp h9
        omega
    · rw [e] at d; exact absurd (by decide) d
/-- a tick of a boat on its way, as the law looks at it -/
def tlaw (p g : Nat → Int32) (nw T : Nat) (b c : Nat → Int32) : Prop :=
  ∃ P0 P1 s : Nat, b 3 = nI P0 ∧ c 3 = nI P1 ∧ b 2 = nI s ∧ s ≤ 8 ∧ P0 ≤ P1 ∧ P1 ≤ 200 ∧ P1 ≤ P0 + s + 6 ∧
    ((c 11 = b 11 ∧ ∀ q, P0 < q → q ≤ P1 → ¬ vW p g nw q < 0 → vW p g nw q = c 4) ∨ (c 11 = b 11 + 1 ∧ c 5 = 0 ∧ P0 < P1 ∧ ¬ vW p g nw P1 < 0 ∧ ¬ vW p g nw P1 = c 4 ∧ ∀ q, P0 < q → q < P1 → ¬ vW p g nw q < 0 → vW p g nw q = c 4)) ∧
    (c 10 = b 10 ∨ (c 10 = b 10 + 1 ∧ c 5 = 0)) ∧ (c 4 = b 4 ∨ c 4 = b 4 + 1 ∨ c 4 = b 4 - 1) ∧ (c 7 = b 7 ∨ c 7 = b 7 + 3) ∧ b 6 ≤ c 6 ∧ ((c 8 = 0 ∧ ¬ c 3 = 200) ∨ (c 8 = 1 ∧ c 3 = 200 ∧ c 9 = nI T)) ∧ c 2 = b 2
theorem le_tr {x y z : Int32} (h1 : x ≤ y) (h2 : y ≤ z) : x ≤ z := by rw [fa_le] at *; omega
theorem tick_law {w p g : Nat → Int32} {nw T : Nat} {k : Int32} {b : Nat → Int32} (hv : okv w p g nw) (hb : okb b) (h8 : b 8 = 0) : tlaw p g nw T b (p_tickK w p g nw (nI T) k b) := by
  obtain ⟨h1, h2, h3, h4, h5, h6, h89⟩ := hb
  obtain ⟨s, hs, es⟩ := rng_of (n := 8) h2 (by omega)
  have hf := force_rng h2 h6 k
  have hfs : 0 ≤ p_force b k ∧ p_force b k ≤ nI s := ⟨hf.1, by rw [← es]; exact force_le h2 h6 k⟩
  have e1 : ∀ q : Nat, q ≠ 4 → q ≠ 7 → q ≠ 5 → q ≠ 10 → p_drift (p_turn b k) q = b q := fun q a c d e => by rw [drift_o a c, turn_o d e]
  have l4 : p_lane (p_drift (p_turn b k) 4) := drift_lane (by rw [turn_o (by decide) (by decide)]; exact h4)
  have l5 : -4 ≤ p_drift (p_turn b k) 5 ∧ p_drift (p_turn b k) 5 ≤ 4 := by rw [drift_o (by decide) (by decide)]; exact turn_5 h5
  have l6 : p_drift (p_turn b k) 6 = b 6 := e1 6 (by decide) (by decide) (by decide) (by decide)
  have l3 : p_drift (p_turn b k) 3 = b 3 := e1 3 (by decide) (by decide) (by decide) (by decide)
  have l11 : p_drift (p_turn b k) 11 = b 11 := e1 11 (by decide) (by decide) (by decide) (by decide)
  have l8 : p_drift (p_turn b k) 8 = b 8 := e1 8 (by decide) (by decide) (by decide) (by decide)
  have l2 : p_drift (p_turn b k) 2 = b 2 := e1 2 (by decide) (by decide) (by decide) (by decide)
  have m4 : p_drift (p_turn b k) 4 = b 4 ∨ p_drift (p_turn b k) 4 = b 4 + 1 ∨ p_drift (p_turn b k) 4 = b 4 - 1 := by
    have t4 : p_turn b k 4 = b 4 := turn_o (by decide) (by decide)
    by_cases q1 : p_lane (p_want (p_turn b k))
    · have e9 : p_drift (p_turn b k) 4 = p_want (p_turn b k) := by unfold p_drift; rw [if_pos q1]; exact va_up_self _ _ _
      rw [e9]
      unfold p_want
      rw [t4]
      split
      · split
        · exact Or.inl rfl
        · exact Or.inr (Or.inr rfl)
      · exact Or.inr (Or.inl rfl)
    · left
      unfold p_drift
      rw [if_neg q1]
      exact t4
  have m7 : p_drift (p_turn b k) 7 = b 7 ∨ p_drift (p_turn b k) 7 = b 7 + 3 := by
    have t7 : p_turn b k 7 = b 7 := turn_o (by decide) (by decide)
    unfold p_drift
    split
    · exact Or.inl t7
    · right
      show p_turn b k 7 + 3 = b 7 + 3
      rw [t7]
  have m10 : p_drift (p_turn b k) 10 = b 10 ∨ (p_drift (p_turn b k) 10 = b 10 + 1 ∧ p_drift (p_turn b k) 5 = 0) := by
    rw [drift_o (by decide) (by decide), drift_o (by decide) (by decide)]
    unfold p_turn
    split
    · exact Or.inr ⟨rfl, rfl⟩
    · exact Or.inl rfl
  show tlaw p g nw T b (p_home (nI T) (p_wet (nI T) (p_adv w p g nw (p_drift (p_turn b k)) (p_force b k))))
  generalize p_drift (p_turn b k) = d at *
  obtain ⟨P0, P1, a1, a2, a3, a4, a5, a6⟩ := adv_law (f := p_force b k) hv l4 l5 (by rw [l3]; exact h3) hfs hs
  have a10 : p_adv w p g nw d (p_force b k) 10 = d 10 := adv_o (by decide) (by decide) (by decide) (by decide)
  have aa4 : p_adv w p g nw d (p_force b k) 4 = d 4 := adv_o (by decide) (by decide) (by decide) (by decide)
  have a7 : p_adv w p g nw d (p_force b k) 7 = d 7 := adv_o (by decide) (by decide) (by decide) (by decide)
  have a8 : p_adv w p g nw d (p_force b k) 8 = d 8 := adv_o (by decide) (by decide) (by decide) (by decide)
  have a22 : p_adv w p g nw d (p_force b k) 2 = d 2 := adv_o (by decide) (by decide) (by decide) (by decide)
  have s6 : b 6 ≤ p_adv w p g nw d (p_force b k) 6 ∧ (0 ≤ p_adv w p g nw d (p_force b k) 6 ∧ p_adv w p g nw d (p_force b k) 6 ≤ 30) := by
    obtain ⟨q, hq, e⟩ := rng_of (n := 30) h6 (by omega)
    have dd := dec_m30 q (by omega)
    have d5 := dec_soak q (by omega)
    rw [← e] at dd d5
    rcases a6 with ⟨-, -, z, -⟩ | ⟨-, -, z, -⟩
    · rw [z, l6]; exact ⟨by rw [fa_le]; omega, h6⟩
    · rw [z, l6]; exact ⟨dd.2.2.2.2, d5.1⟩
  generalize p_adv w p g nw d (p_force b k) = a at *
  have w6 : b 6 ≤ p_wet (nI T) a 6 := by
    unfold p_wet
    split
    · obtain ⟨q, hq, e⟩ := rng_of (n := 30) s6.2 (by omega)
      have dd := dec_m30 q (by omega)
      rw [← e] at dd
      exact le_tr s6.1 dd.2.2.2.1
    · exact s6.1
  have hq : ∀ q : Nat, q ≠ 6 → q ≠ 8 → q ≠ 9 → p_home (nI T) (p_wet (nI T) a) q = a q := fun q x y z => by rw [home_o y z, wet_o x]
  refine ⟨P0, P1, s, by rw [← a1, l3], by rw [hq 3 (by decide) (by decide) (by decide)]; exact a2, es, hs, a3, a4, a5, ?_, ?_, ?_, ?_, ?_, ?_, ?_⟩
  · rw [hq 11 (by decide) (by decide) (by decide), hq 4 (by decide) (by decide) (by decide), hq 5 (by decide) (by decide) (by decide), aa4]
    rcases a6 with ⟨x, -, -, y⟩ | ⟨x, y, -, z⟩
    · exact Or.inl ⟨x.trans l11, y⟩
    · exact Or.inr ⟨by rw [x, l11], y, z⟩
  · rw [hq 10 (by decide) (by decide) (by decide), hq 5 (by decide) (by decide) (by decide), a10]
    rcases m10 with x | ⟨x, y⟩
    · exact Or.inl x
    · refine Or.inr ⟨x, ?_⟩
      rcases a6 with ⟨-, z, -⟩ | ⟨-, z, -⟩
      · exact z.trans y
      · exact z
  · rw [hq 4 (by decide) (by decide) (by decide), aa4]; exact m4
  · rw [hq 7 (by decide) (by decide) (by decide), a7]; exact m7
  · rw [home_o (by decide) (by decide)]; exact w6
  · have w3 : p_wet (nI T) a 3 = a 3 := wet_o (by decide)
    have w8 : p_wet (nI T) a 8 = 0 := by rw [wet_o (by decide), a8, l8]; exact h8
    unfold p_home
    by_cases z : p_wet (nI T) a 3 = 200
    · rw [if_pos z]; exact Or.inr ⟨rfl, z, rfl⟩
    · rw [if_neg z]; exact Or.inl ⟨w8, z⟩
  · rw [hq 2 (by decide) (by decide) (by decide), a22]; exact l2
/-- a boat's numbers at the tick T, for the law -/
def okc (T : Nat) (b : Nat → Int32) : Prop := okb b ∧ (b 8 = 0 → ¬ b 3 = 200) ∧ (¬ b 8 = 0 → b 3 = 200 ∧ 0 ≤ b 9) ∧ (∃ u : Nat, u ≤ T ∧ b 10 = nI u) ∧ ∃ u : Nat, u ≤ T ∧ b 11 = nI u
theorem okc_tick {w p g : Nat → Int32} {nw T : Nat} {f b : Nat → Int32} (hv : okv w p g nw) (hb : okc T b) (hT : T + 1 < 2 ^ 31) : okc (T + 1) (p_tick w p g nw (nI T) f b) := by
  obtain ⟨h0, h1, h2, ⟨u, hu, eu⟩, v, hv2, ev⟩ := hb
  have hok := okb_tick (g := g) (f := f) hv.1 h0 (nI_m1 (T := T) (by omega))
  unfold p_tick at hok ⊢
  by_cases h8 : b 8 = 0
  · rw [if_pos h8] at hok ⊢
    obtain ⟨P0, P1, s, -, -, -, -, -, -, -, a1, a2, -, -, -, a3, -⟩ := tick_law (T := T) (k := p_stk b f (nI T)) hv h0 h8
    refine ⟨hok, ?_, ?_, ?_, ?_⟩
    · intro z
      rcases a3 with x | x
      · exact x.2
      · exact absurd (x.1.symm.trans z) (by decide)
    · intro z
      rcases a3 with x | x
      · exact absurd x.1 z
      · exact ⟨x.2.1, by rw [x.2.2]; exact nI_pos' (by omega)⟩
    · rcases a2 with x | x
      · exact ⟨u, by omega, x.trans eu⟩
      · exact ⟨u + 1, by omega, by rw [x.1, eu, nI_succ]⟩
    · rcases a1 with x | x
      · exact ⟨v, by omega, x.1.trans ev⟩
      · exact ⟨v + 1, by omega, by rw [x.1, ev, nI_succ]⟩
  · rw [if_neg h8] at hok ⊢
    exact ⟨hok, h1, h2, ⟨u, by omega, eu⟩, v, by omega, ev⟩
