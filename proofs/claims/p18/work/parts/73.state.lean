/-! ===== the law's state: the class's object and the race by hand, in the same numbers ===== -/
theorem x_at.kept44 {cI cB : ClassId} {ad : Nat → Nat} {E E1 : Nat → va_E} {w p g : Nat → Int32} {nw n T : Nat} {B F : Nat → Nat → Int32} (h : x_at cI cB ad E w p g nw n T B F) (hk : ∀ q : Nat, q < 44 → E1 q = E q) : x_at cI cB ad E1 w p g nw n T B F := h.kept hk
theorem x_at.ad {cI cB : ClassId} {ad ad1 : Nat → Nat} {E : Nat → va_E} {w p g : Nat → Int32} {nw n T : Nat} {B F : Nat → Nat → Int32} (h : x_at cI cB ad E w p g nw n T B F) (h1 : ∀ q, q < 44 → ad1 q = ad q) : x_at cI cB ad1 E w p g nw n T B F := by
  obtain ⟨h0, ⟨a1, a2, a3, a4⟩, h5, nt, Tt, Bt, Ft, hnt, h6⟩ := h
  refine ⟨?_, ⟨?_, a2, a3, a4⟩, h5.ad (fun q x y => h1 q (by omega)), nt, Tt, Bt, Ft, hnt, h6.ad (fun q x y => h1 q (by omega))⟩
  · rw [h1 1 (by omega), h1 10 (by omega), h1 30 (by omega)]; exact h0
  · unfold rE
    rw [h1 2 (by omega), h1 3 (by omega), h1 4 (by omega)]
    exact a1
/-- the numbers of a state in which the law may be -/
def okL (w p g : Nat → Int32) (nw n T : Nat) (B : Nat → Nat → Int32) : Prop := nw ≤ 6 ∧ n ≤ 6 ∧ okv w p g nw ∧ (∀ i, i < n → okc T (B i)) ∧ ∀ i, n ≤ i → i < 6 → B i = b_new
/-- the law's state at the tick T, its world's indices fLS n -/
def law_st (cI cJ cB : ClassId) (T n : Nat) (ad : Nat → Nat) (E : Nat → va_E) : Prop := ∃ (w p g : Nat → Int32) (nw : Nat) (B F : Nat → Nat → Int32), okL w p g nw n T B ∧ x_at cI cB ad E w p g nw n T B F ∧ s_at cI cJ ad E w p g nw n T B F
theorem okL.h8 {w p g : Nat → Int32} {nw n T : Nat} {B : Nat → Nat → Int32} (h : okL w p g nw n T B) : ∀ i, i < n → B i 8 = 0 ∨ B i 8 = 1 := fun i hi => by
  rcases (h.2.2.2.1 i hi).1.2.2.2.2.2.2 with q | q
  · exact Or.inl q.1
  · exact Or.inr q.1
theorem okL.h3 {w p g : Nat → Int32} {nw n T : Nat} {B : Nat → Nat → Int32} (h : okL w p g nw n T B) : ∀ i, i < n → 0 ≤ B i 3 ∧ B i 3 ≤ 200 := fun i hi => (h.2.2.2.1 i hi).1.2.2.1
theorem okL.go {w p g : Nat → Int32} {nw n T : Nat} {B F : Nat → Nat → Int32} (h : okL w p g nw n T B) (hT : T + 1 < 2 ^ 30) : okL w p g nw n (T + 1) (p_run w p g nw T n F B 1) := by
  obtain ⟨h1, h2, h3, h4, h5⟩ := h
  exact ⟨h1, h2, h3, fun i hi => by rw [run_1 hi]; exact okc_tick h3 (h4 i hi) (by omega), fun i hi h6 => by rw [run_o hi]; exact h5 i hi h6⟩
theorem fLS_x {n : Nat} : ∀ k, k < 5 ∨ (10 ≤ k ∧ k < 24) ∨ (30 ≤ k ∧ k < 44) → k ∈ fLS n := fun k hk => fLS_mem.mpr (by omega)
theorem fLS_s {n : Nat} (hn : n ≤ 6) : ∀ k, (50 ≤ k ∧ k < 55) ∨ (60 ≤ k ∧ k < 60 + n) ∨ (70 ≤ k ∧ k < 70 + n) → k ∈ fLS n := fun k hk => fLS_mem.mpr (by omega)
theorem fLS_o {n k : Nat} (hk : 80 ≤ k) : k ∉ fLS n := fun h => by
  have := (fLS_mem.mp h).1
  omega
theorem s_at.water {cI cJ : ClassId} {ad : Nat → Nat} {E E1 : Nat → va_E} {w w1 p g : Nat → Int32} {nw n T : Nat} {B F : Nat → Nat → Int32} (h : s_at cI cJ ad E w p g nw n T B F) (hn : n ≤ 6) (h0 : E1 51 = .inl (cI, 5, .inl w1)) (hk : ∀ q, 50 ≤ q → q ≠ 51 → E1 q = E q) : s_at cI cJ ad E1 w1 p g nw n T B F := by
  obtain ⟨k0, -, k2, k3, k4, k5⟩ := h
  exact ⟨(hk _ (by omega) (by omega)).trans k0, h0, (hk _ (by omega) (by omega)).trans k2, (hk _ (by omega) (by omega)).trans k3, (hk _ (by omega) (by omega)).trans k4, fun i hi => ⟨(hk _ (by omega) (by omega)).trans (k5 i hi).1, (hk _ (by omega) (by omega)).trans (k5 i hi).2⟩⟩
theorem s_at.weir {cI cJ : ClassId} {ad : Nat → Nat} {E E1 : Nat → va_E} {w p g p1 g1 : Nat → Int32} {nw nw1 n T : Nat} {B F : Nat → Nat → Int32} (h : s_at cI cJ ad E w p g nw n T B F) (hn : n ≤ 6) (h0 : E1 50 = sE ad T nw1) (h2 : E1 52 = .inl (cI, 201, .inl (vW p1 g1 nw1))) (hk : ∀ q, 50 ≤ q → q ≠ 50 → q ≠ 52 → E1 q = E q) : s_at cI cJ ad E1 w p1 g1 nw1 n T B F := by
  obtain ⟨-, k1, -, k3, k4, k5⟩ := h
  exact ⟨h0, (hk _ (by omega) (by omega) (by omega)).trans k1, h2, (hk _ (by omega) (by omega) (by omega)).trans k3, (hk _ (by omega) (by omega) (by omega)).trans k4, fun i hi => ⟨(hk _ (by omega) (by omega) (by omega)).trans (k5 i hi).1, (hk _ (by omega) (by omega) (by omega)).trans (k5 i hi).2⟩⟩
