/-! ===== the law's race by hand, in the class's numbers ===== -/
/-- nine numbers in a row -/
def a9 (v0 v1 v2 v3 v4 v5 v6 v7 v8 : Int32) : Nat → Int32 := fun j => match j with
  | 0 => v0
  | 1 => v1
  | 2 => v2
  | 3 => v3
  | 4 => v4
  | 5 => v5
  | 6 => v6
  | 7 => v7
  | 8 => v8
  | _ => 0
section
variable {v0 v1 v2 v3 v4 v5 v6 v7 v8 x : Int32}
theorem a9_0 : upd (a9 v0 v1 v2 v3 v4 v5 v6 v7 v8) 0 x = a9 x v1 v2 v3 v4 v5 v6 v7 v8 := by
  funext j; match j with | 0 => rfl | 1 => rfl | 2 => rfl | 3 => rfl | 4 => rfl | 5 => rfl | 6 => rfl | 7 => rfl | 8 => rfl | j + 9 => exact if_neg (by omega)
theorem a9_1 : upd (a9 v0 v1 v2 v3 v4 v5 v6 v7 v8) 1 x = a9 v0 x v2 v3 v4 v5 v6 v7 v8 := by
  funext j; match j with | 0 => rfl | 1 => rfl | 2 => rfl | 3 => rfl | 4 => rfl | 5 => rfl | 6 => rfl | 7 => rfl | 8 => rfl | j + 9 => exact if_neg (by omega)
theorem a9_2 : upd (a9 v0 v1 v2 v3 v4 v5 v6 v7 v8) 2 x = a9 v0 v1 x v3 v4 v5 v6 v7 v8 := by
  funext j; match j with | 0 => rfl | 1 => rfl | 2 => rfl | 3 => rfl | 4 => rfl | 5 => rfl | 6 => rfl | 7 => rfl | 8 => rfl | j + 9 => exact if_neg (by omega)
theorem a9_3 : upd (a9 v0 v1 v2 v3 v4 v5 v6 v7 v8) 3 x = a9 v0 v1 v2 x v4 v5 v6 v7 v8 := by
  funext j; match j with | 0 => rfl | 1 => rfl | 2 => rfl | 3 => rfl | 4 => rfl | 5 => rfl | 6 => rfl | 7 => rfl | 8 => rfl | j + 9 => exact if_neg (by omega)
theorem a9_4 : upd (a9 v0 v1 v2 v3 v4 v5 v6 v7 v8) 4 x = a9 v0 v1 v2 v3 x v5 v6 v7 v8 := by
  funext j; match j with | 0 => rfl | 1 => rfl | 2 => rfl | 3 => rfl | 4 => rfl | 5 => rfl | 6 => rfl | 7 => rfl | 8 => rfl | j + 9 => exact if_neg (by omega)
theorem a9_5 : upd (a9 v0 v1 v2 v3 v4 v5 v6 v7 v8) 5 x = a9 v0 v1 v2 v3 v4 x v6 v7 v8 := by
  funext j; match j with | 0 => rfl | 1 => rfl | 2 => rfl | 3 => rfl | 4 => rfl | 5 => rfl | 6 => rfl | 7 => rfl | 8 => rfl | j + 9 => exact if_neg (by omega)
theorem a9_6 : upd (a9 v0 v1 v2 v3 v4 v5 v6 v7 v8) 6 x = a9 v0 v1 v2 v3 v4 v5 x v7 v8 := by
  funext j; match j with | 0 => rfl | 1 => rfl | 2 => rfl | 3 => rfl | 4 => rfl | 5 => rfl | 6 => rfl | 7 => rfl | 8 => rfl | j + 9 => exact if_neg (by omega)
theorem a9_7 : upd (a9 v0 v1 v2 v3 v4 v5 v6 v7 v8) 7 x = a9 v0 v1 v2 v3 v4 v5 v6 x v8 := by
  funext j; match j with | 0 => rfl | 1 => rfl | 2 => rfl | 3 => rfl | 4 => rfl | 5 => rfl | 6 => rfl | 7 => rfl | 8 => rfl | j + 9 => exact if_neg (by omega)
theorem a9_8 : upd (a9 v0 v1 v2 v3 v4 v5 v6 v7 v8) 8 x = a9 v0 v1 v2 v3 v4 v5 v6 v7 x := by
  funext j; match j with | 0 => rfl | 1 => rfl | 2 => rfl | 3 => rfl | 4 => rfl | 5 => rfl | 6 => rfl | 7 => rfl | 8 => rfl | j + 9 => exact if_neg (by omega)
end
/-- the boat's row in the race by hand: place, lane, heading, soaked, fouls, tick of coming in (-1: not yet), spins, stops, strength -/
def sB (b : Nat → Int32) : Nat → Int32 := a9 (b 3) (b 4) (b 5) (b 6) (b 7) (if b 8 = 0 then -1 else b 9) (b 10) (b 11) (b 2)
/-- the gap of the weir at x, -1 where there is none -/
def p_gap (p g : Nat → Int32) (x : Int32) : Nat → Int32
  | 0 => -1
  | i + 1 => if p i = x then g i else p_gap p g x i
/-- the row of weirs by places -/
def vW (p g : Nat → Int32) (nw : Nat) : Nat → Int32 := fun q => p_gap p g (nI q) nw
/-- the river: its numbers in their ranges, no two weirs at one place -/
def okv (w p g : Nat → Int32) (nw : Nat) : Prop := okr w p nw ∧ (∀ i, i < nw → p_lane (g i)) ∧ ∀ i j, i < nw → j < nw → p i = p j → i = j
theorem gap_no {p g : Nat → Int32} {x : Int32} : ∀ {n : Nat}, (∀ i, i < n → ¬ p i = x) → p_gap p g x n = -1
  | 0, _ => rfl
  | n + 1, h => by rw [p_gap, if_neg (h n (by omega)), gap_no (fun i hi => h i (by omega))]
theorem gap_at {p g : Nat → Int32} : ∀ {n : Nat}, (∀ i j, i < n → j < n → p i = p j → i = j) → ∀ {i : Nat}, i < n → p_gap p g (p i) n = g i
  | 0, _, i, hi => absurd hi (by omega)
  | n + 1, hd, i, hi => by
    rw [p_gap]
    by_cases h : p n = p i
    · rw [if_pos h, hd n i (by omega) hi h]
    · rw [if_neg h]
      have hne : i ≠ n := fun q => h (by rw [q])
      exact gap_at (fun a b ha hb => hd a b (by omega) (by omega)) (by omega)
theorem gap_or {p g : Nat → Int32} {x : Int32} : ∀ {n : Nat}, (∃ i, i < n ∧ p i = x ∧ p_gap p g x n = g i) ∨ ((∀ i, i < n → ¬ p i = x) ∧ p_gap p g x n = -1)
  | 0 => Or.inr ⟨fun i hi => absurd hi (by omega), rfl⟩
  | n + 1 => by
    rw [p_gap]
    by_cases h : p n = x
    · rw [if_pos h]
      exact Or.inl ⟨n, by omega, h, rfl⟩
    · rw [if_neg h]
      rcases gap_or (p := p) (g := g) (x := x) (n := n) with ⟨i, hi, e1, e2⟩ | ⟨h1, h2⟩
      · exact Or.inl ⟨i, by omega, e1, e2⟩
      · refine Or.inr ⟨fun i hi => ?_, h2⟩
        by_cases hin : i = n
        · rw [hin]; exact h
        · exact h1 i (by omega)
theorem gap_congr {p g p1 g1 : Nat → Int32} {x : Int32} : ∀ {n : Nat}, (∀ i, i < n → p i = p1 i ∧ g i = g1 i) → p_gap p g x n = p_gap p1 g1 x n
  | 0, _ => rfl
  | n + 1, h => by rw [p_gap, p_gap, (h n (by omega)).1, (h n (by omega)).2, gap_congr (fun i hi => h i (by omega))]
theorem lane_nn {x : Int32} (h : p_lane x) : ¬ x < 0 := i_nlt.mpr h.1
theorem vW_or {p g : Nat → Int32} {nw q : Nat} (hg : ∀ i, i < nw → p_lane (g i)) : (∃ i, i < nw ∧ p i = nI q ∧ vW p g nw q = g i ∧ ¬ vW p g nw q < 0) ∨ ((∀ i, i < nw → ¬ p i = nI q) ∧ vW p g nw q = -1) := by
  rcases gap_or (p := p) (g := g) (x := nI q) (n := nw) with ⟨i, hi, e1, e2⟩ | h
  · refine Or.inl ⟨i, hi, e1, e2, ?_⟩
    show ¬ p_gap p g (nI q) nw < 0
    rw [e2]
    exact lane_nn (hg i hi)
  · exact Or.inr h
theorem has_iff {p : Nat → Int32} {x : Int32} : ∀ {n : Nat}, p_has p x n = 0 ↔ ∀ i, i < n → ¬ p i = x
  | 0 => ⟨fun _ i hi => absurd hi (by omega), fun _ => rfl⟩
  | n + 1 => by
    rw [p_has]
    by_cases h : p_has p x n = 1 ∨ p n = x
    · rw [if_pos h]
      refine ⟨fun q => absurd q (by decide), fun q => ?_⟩
      rcases h with h | h
      · exfalso
        have h0 := (has_iff (p := p) (x := x) (n := n)).mpr (fun i hi => q i (by omega))
        rw [h0] at h
        exact absurd h (by decide)
      · exact absurd h (q n (by omega))
    · rw [if_neg h]
      have h2 : p_has p x n = 0 := by
        cases n with
        | zero => rfl
        | succ m =>
          have h3 : ¬ p_has p x (m + 1) = 1 := fun q => h (Or.inl q)
          rw [p_has] at h3 ⊢
          split
          · rename_i h4; rw [if_pos h4] at h3; exact absurd rfl h3
          · rfl
      refine ⟨fun _ i hi => ?_, fun _ => rfl⟩
      by_cases hin : i = n
      · rw [hin]; exact fun q => h (Or.inr q)
      · exact (has_iff.mp h2) i (by omega)
/-- the river's row with one weir more -/
theorem vW_add {p g : Nat → Int32} {nw x j : Nat} {y : Int32} (hx : x < 201) (hj : j < 201) : upd (vW p g nw) x y j = vW (upd p nw (nI x)) (upd g nw y) (nw + 1) j := by
  show (if j = x then y else p_gap p g (nI j) nw) = p_gap (upd p nw (nI x)) (upd g nw y) (nI j) (nw + 1)
  have e1 : upd p nw (nI x) nw = nI x := pk_us
  have e2 : upd g nw y nw = y := pk_us
  have e3 : p_gap (upd p nw (nI x)) (upd g nw y) (nI j) nw = p_gap p g (nI j) nw := gap_congr (fun i hi => ⟨if_neg (by omega), if_neg (by omega)⟩)
  rw [p_gap, e1, e2, e3]
  by_cases h : j = x
  · subst h; rw [if_pos rfl, if_pos rfl]
  · rw [if_neg h, if_neg (fun q => h ((nI_eq (by omega) (by omega)).mp q).symm)]
theorem okv_weir {w p g : Nat → Int32} {nw : Nat} {x y : Int32} (h : okv w p g nw) (hx : 1 ≤ x ∧ x ≤ 199) (hy : p_lane y) (hn : p_has p x nw = 0) : okv w (upd p nw x) (upd g nw y) (nw + 1) := by
  have hno := has_iff.mp hn
  have e1 : ∀ (f : Nat → Int32) (v : Int32), upd f nw v nw = v := fun f v => pk_us
  have e2 : ∀ (f : Nat → Int32) (v : Int32) (i : Nat), i ≠ nw → upd f nw v i = f i := fun f v i hi => if_neg hi
  refine ⟨⟨h.1.1, fun i hi => ?_⟩, fun i hi => ?_, fun i j hi hj hij => ?_⟩
  · by_cases q : i = nw
    · rw [q, e1]; exact hx
    · rw [e2 _ _ _ q]; exact h.1.2 i (by omega)
  · by_cases q : i = nw
    · rw [q, e1]; exact hy
    · rw [e2 _ _ _ q]; exact h.2.1 i (by omega)
  · by_cases q : i = nw <;> by_cases r : j = nw
    · omega
    · rw [q, e1, e2 _ _ _ r] at hij
      exact absurd hij.symm (hno j (by omega))
    · rw [r, e1, e2 _ _ _ q] at hij
      exact absurd hij (hno i (by omega))
    · rw [e2 _ _ _ q, e2 _ _ _ r] at hij
      exact h.2.2 i j (by omega) (by omega) hij
/-! the first weir that stops -/
theorem stop_no {p g : Nat → Int32} {fr to ln : Int32} : ∀ {n : Nat}, (∀ i, i < n → fr < p i → p i ≤ to → g i = ln) → p_stop p g fr to ln n = -1
  | 0, _ => rfl
  | n + 1, h => by rw [p_stop, if_neg (fun q => q.2.1 (h n (by omega) q.1.1 q.1.2)), stop_no (fun i hi => h i (by omega))]
theorem stop_or {p g : Nat → Int32} {fr to ln : Int32} : ∀ {n : Nat}, (∀ i, i < n → 1 ≤ p i ∧ p i ≤ 199) →
    (p_stop p g fr to ln n = -1 ∧ ∀ i, i < n → fr < p i → p i ≤ to → g i = ln) ∨ ∃ i, i < n ∧ p_stop p g fr to ln n = p i ∧ fr < p i ∧ p i ≤ to ∧ ¬ g i = ln ∧ ∀ j, j < n → fr < p j → p j ≤ to → ¬ g j = ln → p i ≤ p j
  | 0, _ => Or.inl ⟨rfl, fun i hi => absurd hi (by omega)⟩
  | n + 1, h => by
    have hp : ∀ i, i < n + 1 → ¬ p i = -1 := fun i hi q => absurd (q ▸ (h i hi).1) (by decide)
    rw [p_stop]
    rcases stop_or (p := p) (g := g) (fr := fr) (to := to) (ln := ln) (n := n) (fun i hi => h i (by omega)) with ⟨h1, h2⟩ | ⟨i, hi, e, h1, h2, h3, h4⟩
    · rw [h1]
      split
      · rename_i q
        refine Or.inr ⟨n, by omega, rfl, q.1.1, q.1.2, q.2.1, fun j hj a b c => ?_⟩
        by_cases hjn : j = n
        · rw [hjn, fa_le]; omega
        · exact absurd (h2 j (by omega) a b) c
      · rename_i q
        refine Or.inl ⟨rfl, fun i hi a b => ?_⟩
        by_cases hin : i = n
        · subst hin
          by_cases c : g i = ln
          · exact c
          · exact absurd ⟨⟨a, b⟩, c, Or.inl rfl⟩ q
        · exact h2 i (by omega) a b
    · rw [e]
      split
      · rename_i q
        have hlt : p n < p i := q.2.2.elim (fun z => absurd z (hp i (by omega))) id
        refine Or.inr ⟨n, by omega, rfl, q.1.1, q.1.2, q.2.1, fun j hj a b c => ?_⟩
        by_cases hjn : j = n
        · rw [hjn, fa_le]; omega
        · have := h4 j (by omega) a b c
          rw [fa_le] at *
          rw [fa_lt] at hlt
          omega
      · rename_i q
        refine Or.inr ⟨i, by omega, rfl, h1, h2, h3, fun j hj a b c => ?_⟩
        by_cases hjn : j = n
        · subst hjn
          exact i_nlt.mp (fun z => q ⟨⟨a, b⟩, c, Or.inr z⟩)
        · exact h4 j (by omega) a b c
/-- no weir stops on the way: as the race by hand sees it -/
theorem walk_no {w p g : Nat → Int32} {nw P W k : Nat} {ln : Int32} (hv : okv w p g nw) (hP : P + k ≤ 200) (hk : P + W ≤ P + k ∨ P + k = 200) (hW : W < 15) (h : ∀ q, P < q → q ≤ P + k → ¬ vW p g nw q < 0 → vW p g nw q = ln) : p_stop p g (nI P) (nI P + nI W) ln nw = -1 := by
  rw [nI_add]
  refine stop_no (fun i hi a b => ?_)
  obtain ⟨q, hq, e⟩ := le_nat (x := p i) (n := 199) (one_le (hv.1.2 i hi).1) (hv.1.2 i hi).2 (by omega)
  rw [e] at a b
  have a1 : P < q := (nI_ltI (by omega) (by omega)).mp a
  have b1 : q ≤ P + W := (nI_leI (by omega) (by omega)).mp b
  have g1 : vW p g nw q = g i := by
    show p_gap p g (nI q) nw = g i
    rw [← e]
    exact gap_at hv.2.2 hi
  have := h q a1 (by omega) (by rw [g1]; exact lane_nn (hv.2.1 i hi))
  rw [← g1]
  exact this
theorem walk_yes {w p g : Nat → Int32} {nw P W k : Nat} {ln : Int32} (hv : okv w p g nw) (hP : P + k < 200) (hk : k < W) (hW : W < 15) (h : ∀ q, P < q → q ≤ P + k → ¬ vW p g nw q < 0 → vW p g nw q = ln) (h0 : ¬ vW p g nw (P + k + 1) < 0) (h1 : ¬ vW p g nw (P + k + 1) = ln) : p_stop p g (nI P) (nI P + nI W) ln nw = nI (P + k + 1) := by
  rw [nI_add]
  rcases vW_or (p := p) (q := P + k + 1) hv.2.1 with ⟨i, hi, e1, e2, -⟩ | ⟨-, e⟩
  · have hcond : nI P < p i ∧ p i ≤ nI (P + W) ∧ ¬ g i = ln := by
      rw [e1]
      exact ⟨(nI_ltI (by omega) (by omega)).mpr (by omega), (nI_leI (by omega) (by omega)).mpr (by omega), fun q => h1 (e2.trans q)⟩
    rcases stop_or (p := p) (g := g) (fr := nI P) (to := nI (P + W)) (ln := ln) (n := nw) hv.1.2 with ⟨-, h2⟩ | ⟨j, hj, ej, f1, f2, f3, f4⟩
    · exact absurd (h2 i hi hcond.1 hcond.2.1) hcond.2.2
    · rw [ej]
      have h5 := f4 i hi hcond.1 hcond.2.1 hcond.2.2
      obtain ⟨q, hq, eq⟩ := le_nat (x := p j) (n := 199) (one_le (hv.1.2 j hj).1) (hv.1.2 j hj).2 (by omega)
      rw [eq] at f1 h5 ⊢
      rw [e1] at h5
      have a1 : P < q := (nI_ltI (by omega) (by omega)).mp f1
      have b1 : q ≤ P + k + 1 := (nI_leI (by omega) (by omega)).mp h5
      by_cases hq1 : q = P + k + 1
      · rw [hq1]
      · have g1 : vW p g nw q = g j := by
          show p_gap p g (nI q) nw = g j
          rw [← eq]
          exact gap_at hv.2.2 hj
        exact absurd (g1.symm.trans (h q a1 (by omega) (by rw [g1]; exact lane_nn (hv.2.1 j hj)))) f3
  · rw [e] at h0
    exact absurd (by decide) h0
