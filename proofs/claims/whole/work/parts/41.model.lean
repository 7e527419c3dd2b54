def m_nx (p : Nat → Int32) (pl : Int32) : Nat → Int32
  | 0 => 200
  | i + 1 => if pl < p i then p_min (m_nx p pl i) (p i) else m_nx p pl i
theorem nx_at {p : Nat → Int32} {pl : Int32} : ∀ {k : Nat}, (∀ i, i < k → 1 ≤ p i ∧ p i ≤ 199) → (m_nx p pl k = 200 ∧ p_next p pl k = -1) ∨ (m_nx p pl k = p_next p pl k ∧ 1 ≤ p_next p pl k ∧ p_next p pl k ≤ 199)
  | 0, _ => Or.inl ⟨rfl, rfl⟩
  | k + 1, h => by
    have hk := h k (by omega)
    have ih := nx_at (pl := pl) (k := k) (fun i hi => h i (by omega))
    rw [m_nx, p_next]
    by_cases hp : pl < p k
    · rw [if_pos hp]
      rcases ih with ⟨a, b⟩ | ⟨a, b⟩
      · right
        rw [if_pos ⟨hp, Or.inl b⟩, a]
        have h2 : p k < 200 := by
          have := hk.2
          rw [fa_le] at this
          rw [fa_lt]
          have e1 : (199 : Int32).toInt = 199 := by decide
          have e2 : (200 : Int32).toInt = 200 := by decide
          omega
        exact ⟨if_pos h2, hk⟩
      · right
        have hb : ¬ p_next p pl k = -1 := fun q => by rw [q] at b; exact absurd b.1 (by decide)
        rw [a]
        unfold p_min
        by_cases h3 : p k < p_next p pl k
        · rw [if_pos h3, if_pos ⟨hp, Or.inr h3⟩]
          exact ⟨rfl, hk⟩
        · rw [if_neg h3, if_neg (fun q => q.2.elim hb h3)]
          exact ⟨rfl, b⟩
    · rw [if_neg hp, if_neg (fun q => hp q.1)]
      exact ih