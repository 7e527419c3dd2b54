/-! ===== the reference's ticks in numbers ===== -/
theorem nI_of1 {x : Int32} (h : 1 ≤ x ∧ x ≤ 6) : x = nI x.toNatClampNeg ∧ 0 < x.toNatClampNeg ∧ x.toNatClampNeg ≤ 6 := by
  obtain ⟨i, hi, e⟩ := rng_of (x := x) (n := 6) ⟨by
    rw [fa_le] at *
    have e1 : (1 : Int32).toInt = 1 := by decide
    have e0 : (0 : Int32).toInt = 0 := by decide
    omega, h.2⟩ (by omega)
  subst e
  rw [nI_clamp (by omega)]
  refine ⟨rfl, ?_, hi⟩
  rcases Nat.eq_zero_or_pos i with q | q
  · subst q
    exact absurd h.1 (by decide)
  · exact q
def m_K (S : Nat → Nat → Int32) (T i : Nat) : Int32 := m_row (S 9 i) (nI (S 8 i).toNatClampNeg) (T % (S 8 i).toNatClampNeg)
/-- the rows behind the boats below i of a tick -/
def m_mid (w p g : Nat → Int32) (nw T : Nat) (str : Nat → Int32) (S : Nat → Nat → Int32) : Nat → Nat → Nat → Int32
  | 0 => S
  | i + 1 => if m_mid w p g nw T str S i 5 i = -1 then su (m_mid w p g nw T str S i) i (p_tickK w p g nw (nI T) (m_K S T i) (mb (m_mid w p g nw T str S i) str i)) else m_mid w p g nw T str S i
/-- the rows behind j ticks -/
def m_run (w p g : Nat → Int32) (nw T n : Nat) (str : Nat → Int32) (S : Nat → Nat → Int32) : Nat → Nat → Nat → Int32
  | 0 => S
  | j + 1 => m_mid w p g nw (T + j) str (m_run w p g nw T n str S j) n
section
variable {w p g : Nat → Int32} {nw T n : Nat} {str : Nat → Int32} {S : Nat → Nat → Int32}
theorem m_mid_89 : ∀ i : Nat, m_mid w p g nw T str S i 8 = S 8 ∧ m_mid w p g nw T str S i 9 = S 9
  | 0 => ⟨rfl, rfl⟩
  | i + 1 => by
    rw [m_mid]
    split
    · exact m_mid_89 i
    · exact m_mid_89 i
theorem mb_su_ne {i q : Nat} {c : Nat → Int32} (h : q ≠ i) : mb (su S i c) str q = mb S str q := by
  have e : ∀ (f : Nat → Int32) (v : Int32), upd f i v q = f q := fun f v => if_neg h
  funext k
  match k with
  | 0 => rfl
  | 1 => rfl
  | 2 => rfl
  | 3 => exact e _ _
  | 4 => exact e _ _
  | 5 => exact e _ _
  | 6 => exact e _ _
  | 7 => exact e _ _
  | 8 =>
    show (if upd (S 5) i _ q = -1 then (0 : Int32) else 1) = if S 5 q = -1 then 0 else 1
    rw [e]
  | 9 =>
    show (if upd (S 5) i _ q = -1 then (0 : Int32) else upd (S 5) i _ q) = if S 5 q = -1 then 0 else S 5 q
    rw [e]
  | 10 => exact e _ _
  | 11 => exact e _ _
  | k + 12 => rfl
theorem mb_su1 {i : Nat} {c : Nat → Int32} (ho : ∀ k : Nat, k = 0 ∨ k = 1 ∨ k = 2 ∨ 12 ≤ k → c k = mb S str i k) (h89 : (c 8 = 0 ∧ c 9 = 0) ∨ (c 8 = 1 ∧ ¬ c 9 = -1)) : mb (su S i c) str i = c := by
  have e5 : su S i c 5 i = if c 8 = 0 then -1 else c 9 := pk_us
  funext k
  match k with
  | 0 => exact (ho 0 (by omega)).symm
  | 1 => exact (ho 1 (by omega)).symm
  | 2 => exact (ho 2 (by omega)).symm
  | 3 => exact pk_us
  | 4 => exact pk_us
  | 5 => exact pk_us
  | 6 => exact pk_us
  | 7 => exact pk_us
  | 8 =>
    show (if su S i c 5 i = -1 then (0 : Int32) else 1) = c 8
    rw [e5]
    rcases h89 with ⟨h, h9⟩ | ⟨h, h9⟩
    · rw [h, if_pos rfl, if_pos rfl]
    · rw [h, if_neg (by decide : ¬ (1 : Int32) = 0), if_neg h9]
  | 9 =>
    show (if su S i c 5 i = -1 then (0 : Int32) else su S i c 5 i) = c 9
    rw [e5]
    rcases h89 with ⟨h, h9⟩ | ⟨h, h9⟩
    · rw [h, if_pos rfl, if_pos rfl, h9]
    · rw [h, if_neg (by decide : ¬ (1 : Int32) = 0), if_neg h9]
  | 10 => exact pk_us
  | 11 => exact pk_us
  | k + 12 => exact (ho (k + 12) (by omega)).symm
theorem tickK_o {t k : Int32} {c : Nat → Int32} {q : Nat} (hq : q = 0 ∨ q = 1 ∨ q = 2 ∨ 12 ≤ q) : p_tickK w p g nw t k c q = c q := by
  unfold p_tickK
  rw [home_o (by omega) (by omega), wet_o (by omega), adv_o (by omega) (by omega) (by omega) (by omega), drift_o (by omega) (by omega), turn_o (by omega) (by omega)]
/-- a tick of the boat i, as the reference does it -/
def m_tick1 (w p g : Nat → Int32) (nw T : Nat) (str : Nat → Int32) (S : Nat → Nat → Int32) (i : Nat) : Nat → Int32 := if S 5 i = -1 then p_tickK w p g nw (nI T) (m_K S T i) (mb S str i) else mb S str i
theorem mb_89 (i : Nat) : mb S str i 8 = 0 ↔ S 5 i = -1 := by
  rw [mb_8]
  by_cases h : S 5 i = -1
  · rw [if_pos h]; simp [h]
  · rw [if_neg h]; simp [h]
theorem mb_in (i : Nat) : mb S str i 8 = 0 ∨ mb S str i 8 = 1 := by
  rw [mb_8]
  by_cases h : S 5 i = -1
  · rw [if_pos h]; exact Or.inl rfl
  · rw [if_neg h]; exact Or.inr rfl
theorem m_mid_at (hr : okr w p nw) (hT : T < 2 ^ 31) : ∀ i : Nat, (∀ q, q < i → okb (mb S str q)) → (∀ q, i ≤ q → mb (m_mid w p g nw T str S i) str q = mb S str q) ∧ ∀ q, q < i → mb (m_mid w p g nw T str S i) str q = m_tick1 w p g nw T str S q
  | 0, _ => ⟨fun _ _ => rfl, fun q hq => absurd hq (by omega)⟩
  | i + 1, ok => by
    obtain ⟨h1, h2⟩ := m_mid_at hr hT i (fun q hq => ok q (by omega))
    have hi := h1 i (Nat.le_refl _)
    have h5 : m_mid w p g nw T str S i 5 i = -1 ↔ S 5 i = -1 := by rw [← mb_89 (str := str), hi, mb_89]
    have e8 : mb S str i 8 = 0 → okb (p_tickK w p g nw (nI T) (m_K S T i) (mb S str i)) := fun h => okb_tickK hr (ok i (by omega)) h (nI_m1 hT)
    rw [m_mid]
    by_cases h : S 5 i = -1
    · rw [if_pos (h5.mpr h)]
      refine ⟨fun q hq => ?_, fun q hq => ?_⟩
      · rw [mb_su_ne (by omega)]; exact h1 q (by omega)
      · by_cases hqi : q = i
        · subst hqi
          rw [hi]
          unfold m_tick1
          rw [if_pos h]
          exact mb_su1 (fun k hk => by rw [tickK_o hk, ← hi]) (e8 ((mb_89 q).mpr h)).2.2.2.2.2.2
        · rw [mb_su_ne hqi]; exact h2 q (by omega)
    · rw [if_neg (fun q => h (h5.mp q))]
      refine ⟨fun q hq => h1 q (by omega), fun q hq => ?_⟩
      by_cases hqi : q = i
      · subst hqi
        rw [hi]
        unfold m_tick1
        rw [if_neg h]
      · exact h2 q (by omega)
theorem okb_len {c : Nat → Int32} (h : okb c) : c 1 = nI (c 1).toNatClampNeg ∧ 0 < (c 1).toNatClampNeg ∧ (c 1).toNatClampNeg ≤ 6 := nI_of1 h.1
theorem p_stk_K {i : Nat} (h : okb (mb S str i)) (hT : T < 2 ^ 31) : p_stk (mb S str i) (m_row (S 9 i) (S 8 i)) (nI T) = m_K S T i := by
  obtain ⟨e, h0, h6⟩ := okb_len h
  have e1 : mb S str i 1 = S 8 i := rfl
  rw [e1] at e h0 h6
  unfold p_stk m_K
  have n1 : ¬ (mb S str i 1 < 1 ∨ 6 < mb S str i 1) := fun q => q.elim (fun a => i_nlt.mpr h.1.1 a) (fun a => i_nlt.mpr h.1.2 a)
  rw [if_neg n1, e1, ← e]
  congr 1
  generalize hm : (S 8 i).toNatClampNeg = m at *
  rw [e]
  show (nI T - nI T / nI m * nI m).toNatClampNeg = T % m
  rw [pk_rem hT h0 (by omega), nI_clamp]
  have := Nat.mod_lt T h0
  omega
theorem m_tick1_p {i : Nat} (h : okb (mb S str i)) (hT : T < 2 ^ 31) : m_tick1 w p g nw T str S i = p_tick w p g nw (nI T) (m_row (S 9 i) (S 8 i)) (mb S str i) := by
  unfold m_tick1 p_tick
  rw [p_stk_K h hT]
  by_cases h5 : S 5 i = -1
  · rw [if_pos h5, if_pos ((mb_89 i).mpr h5)]
  · rw [if_neg h5, if_neg (fun q => h5 ((mb_89 i).mp q))]
theorem m_run_89 : ∀ j : Nat, m_run w p g nw T n str S j 8 = S 8 ∧ m_run w p g nw T n str S j 9 = S 9
  | 0 => ⟨rfl, rfl⟩
  | j + 1 => ⟨(m_mid_89 n).1.trans (m_run_89 j).1, (m_mid_89 n).2.trans (m_run_89 j).2⟩
theorem m_run_at (hr : okr w p nw) (ok : ∀ q, q < n → okb (mb S str q)) : ∀ j : Nat, T + j < 2 ^ 31 → (∀ q, n ≤ q → mb (m_run w p g nw T n str S j) str q = mb S str q) ∧ ∀ q, q < n → mb (m_run w p g nw T n str S j) str q = p_boat w p g nw T (m_row (S 9 q) (S 8 q)) (mb S str q) j
  | 0, _ => ⟨fun _ _ => rfl, fun _ _ => rfl⟩
  | j + 1, hT => by
    obtain ⟨h1, h2⟩ := m_run_at hr ok j (by omega)
    have ok1 : ∀ q, q < n → okb (mb (m_run w p g nw T n str S j) str q) := fun q hq => by rw [h2 q hq]; exact okb_boat hr (ok q hq) (by omega)
    obtain ⟨h3, h4⟩ := m_mid_at (g := g) (S := m_run w p g nw T n str S j) (T := T + j) hr (by omega) n ok1
    refine ⟨fun q hq => (h3 q hq).trans (h1 q hq), fun q hq => ?_⟩
    rw [m_run, h4 q hq, m_tick1_p (ok1 q hq) (by omega), h2 q hq, (m_run_89 j).1, (m_run_89 j).2]
    rfl
theorem okb_run (hr : okr w p nw) (ok : ∀ q, q < n → okb (mb S str q)) {j : Nat} (h : T + j < 2 ^ 31) : ∀ q, q < n → okb (mb (m_run w p g nw T n str S j) str q) := fun q hq => by
  rw [(m_run_at hr ok j h).2 q hq]
  exact okb_boat hr (ok q hq) h
end
/-! leaders and winners -/
theorem lead_at {B : Nat → Nat → Int32} : ∀ {i : Nat}, (∀ q, q < i → 0 ≤ B q 3) → (p_lead B i).1 = -1 ∧ (p_lead B i).2 = -1 ∨ ∃ q, q < i ∧ (p_lead B i).1 = nI q ∧ (p_lead B i).2 = B q 3
  | 0, _ => Or.inl ⟨rfl, rfl⟩
  | i + 1, h => by
    rw [p_lead]
    split
    · exact Or.inr ⟨i, by omega, rfl, rfl⟩
    · rcases lead_at (i := i) (fun q hq => h q (by omega)) with a | ⟨q, hq, a⟩
      · exact Or.inl a
      · exact Or.inr ⟨q, by omega, a⟩
theorem win_at {B : Nat → Nat → Int32} : ∀ {i : Nat}, (p_win B i).1 = -1 ∨ ∃ q, q < i ∧ (p_win B i).1 = nI q ∧ (p_win B i).2 = p_time (B q)
  | 0 => Or.inl rfl
  | i + 1 => by
    rw [p_win]
    split
    · exact Or.inr ⟨i, by omega, rfl, rfl⟩
    · rcases win_at (B := B) (i := i) with a | ⟨q, hq, a⟩
      · exact Or.inl a
      · exact Or.inr ⟨q, by omega, a⟩
