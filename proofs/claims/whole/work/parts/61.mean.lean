theorem dec_mean : ∀ s, s < 1201 → ∀ n, n < 7 → ¬ n = 0 → (FP.ddiv (FP.i2d (nI s)) (FP.i2d (nI n))) &&& 0x7fffffffffffffff ≤ (0x7ff0000000000000 : UInt64) := by decide +kernel
theorem psum_rng {B : Nat → Nat → Int32} : ∀ {n : Nat}, n ≤ 6 → (∀ i, i < n → 0 ≤ B i 3 ∧ B i 3 ≤ 200) → ∃ s, s ≤ 200 * n ∧ p_psum B n = nI s
  | 0, _, _ => ⟨0, by omega, rfl⟩
  | n + 1, hn, h => by
    obtain ⟨s, hs, e⟩ := psum_rng (n := n) (by omega) (fun i hi => h i (by omega))
    obtain ⟨q, hq, eq⟩ := rng_of (n := 200) (h n (by omega)) (by omega)
    exact ⟨s + q, by omega, by rw [p_psum, e, eq, nI_add]⟩
theorem mean_ok {B : Nat → Nat → Int32} {n : Nat} (hn : n ≤ 6) (h : ∀ i, i < n → 0 ≤ B i 3 ∧ B i 3 ≤ 200) : ¬ nI n < 1 → vf_n64 (FP.ddiv (FP.i2d (p_psum B n)) (FP.i2d (nI n))) := fun h1 => by
  obtain ⟨s, hs, e⟩ := psum_rng hn h
  rw [e]
  exact dec_mean s (by omega) n (by omega) (fun q => by subst q; exact h1 (by decide))
