/-! ===== who is in, who leads, who wins, ranks ===== -/
theorem in_cnt {B : Nat → Nat → Int32} : ∀ {n : Nat}, ∃ c : Nat, c ≤ n ∧ p_in B n = nI c ∧ (c = 0 ↔ ∀ i, i < n → B i 8 = 0) ∧ (c = n ↔ ∀ i, i < n → ¬ B i 8 = 0)
  | 0 => ⟨0, by omega, rfl, ⟨fun _ i hi => absurd hi (by omega), fun _ => rfl⟩, ⟨fun _ i hi => absurd hi (by omega), fun _ => rfl⟩⟩
  | n + 1 => by
    obtain ⟨c, hc, e, h0, h1⟩ := in_cnt (B := B) (n := n)
    rw [p_in]
    by_cases h : B n 8 = 0
    · rw [if_pos h]
      refine ⟨c, by omega, e, ⟨fun z i hi => ?_, fun z => h0.mpr (fun i hi => z i (by omega))⟩, ⟨fun z => by omega, fun z => absurd h (z n (by omega))⟩⟩
      by_cases q : i = n
      · rw [q]; exact h
      · exact h0.mp z i (by omega)
    · rw [if_neg h]
      refine ⟨c + 1, by omega, by rw [e, nI_succ], ⟨fun z => by omega, fun z => absurd (z n (by omega)) h⟩, ⟨fun z i hi => ?_, fun z => by rw [h1.mpr (fun i hi => z i (by omega))]⟩⟩
      by_cases q : i = n
      · rw [q]; exact h
      · exact h1.mp (by omega) i (by omega)
theorem nI_ne_m1 {q : Nat} (h : q < 2 ^ 31) : ¬ nI q = -1 := nI_m1 h
theorem win_spec {B : Nat → Nat → Int32} : ∀ {n : Nat}, n < 2 ^ 31 → ((p_win B n).1 = -1 ∧ ∀ i, i < n → B i 8 = 0) ∨ ∃ q, q < n ∧ (p_win B n).1 = nI q ∧ (p_win B n).2 = p_time (B q) ∧ ¬ B q 8 = 0 ∧ (∀ i, i < n → ¬ B i 8 = 0 → p_time (B q) ≤ p_time (B i)) ∧ ∀ i, i < q → ¬ B i 8 = 0 → p_time (B q) < p_time (B i)
  | 0, _ => Or.inl ⟨rfl, fun i hi => absurd hi (by omega)⟩
  | n + 1, hn => by
    rw [p_win]
    rcases win_spec (B := B) (n := n) (by omega) with ⟨e, h⟩ | ⟨q, hq, e1, e2, h8, h1, h2⟩
    · rw [e]
      by_cases c : B n 8 = 0
      · rw [if_neg (fun z => z.1 c), e]
        refine Or.inl ⟨rfl, fun i hi => ?_⟩
        by_cases z : i = n
        · rw [z]; exact c
        · exact h i (by omega)
      · rw [if_pos ⟨c, Or.inl rfl⟩]
        refine Or.inr ⟨n, by omega, rfl, rfl, c, fun i hi z => ?_, fun i hi z => absurd (h i hi) z⟩
        by_cases y : i = n
        · rw [y, fa_le]; omega
        · exact absurd (h i (by omega)) z
    · rw [e1, e2]
      by_cases c : ¬ B n 8 = 0 ∧ (nI q = -1 ∨ p_time (B n) < p_time (B q))
      · rw [if_pos c]
        have hlt : p_time (B n) < p_time (B q) := c.2.elim (fun z => absurd z (nI_ne_m1 (by omega))) id
        rw [fa_lt] at hlt
        refine Or.inr ⟨n, by omega, rfl, rfl, c.1, fun i hi z => ?_, fun i hi z => ?_⟩
        · by_cases y : i = n
          · rw [y, fa_le]; omega
          · have := h1 i (by omega) z
            rw [fa_le] at *
            omega
        · have := h1 i (by omega) z
          rw [fa_le] at this
          rw [fa_lt]
          omega
      · rw [if_neg c, e1, e2]
        refine Or.inr ⟨q, by omega, rfl, rfl, h8, fun i hi z => ?_, h2⟩
        by_cases y : i = n
        · subst y
          exact i_nlt.mp (fun x => c ⟨z, Or.inr x⟩)
        · exact h1 i (by omega) z
theorem lead_spec {B : Nat → Nat → Int32} : ∀ {n : Nat}, (∀ i, i < n → 0 ≤ B i 3) → ((p_lead B n).1 = -1 ∧ (p_lead B n).2 = -1 ∧ ∀ i, i < n → ¬ B i 8 = 0) ∨ ∃ q, q < n ∧ (p_lead B n).1 = nI q ∧ (p_lead B n).2 = B q 3 ∧ B q 8 = 0 ∧ (∀ i, i < n → B i 8 = 0 → B i 3 ≤ B q 3) ∧ ∀ i, i < q → B i 8 = 0 → B i 3 < B q 3
  | 0, _ => Or.inl ⟨rfl, rfl, fun i hi => absurd hi (by omega)⟩
  | n + 1, h => by
    rw [p_lead]
    rcases lead_spec (B := B) (n := n) (fun i hi => h i (by omega)) with ⟨e1, e2, h1⟩ | ⟨q, hq, e1, e2, h8, h1, h2⟩
    · rw [e2]
      by_cases c : B n 8 = 0
      · have hlt : (-1 : Int32) < B n 3 := by
          have := h n (by omega)
          rw [fa_le] at this
          rw [fa_lt]
          have e1 : (-1 : Int32).toInt = -1 := by decide
          have e0 : (0 : Int32).toInt = 0 := by decide
          omega
        rw [if_pos ⟨c, hlt⟩]
        refine Or.inr ⟨n, by omega, rfl, rfl, c, fun i hi z => ?_, fun i hi z => absurd z (h1 i hi)⟩
        by_cases y : i = n
        · rw [y, fa_le]; omega
        · exact absurd z (h1 i (by omega))
      · rw [if_neg (fun z => c z.1), e1, e2]
        refine Or.inl ⟨rfl, rfl, fun i hi => ?_⟩
        by_cases y : i = n
        · rw [y]; exact c
        · exact h1 i (by omega)
    · rw [e2]
      by_cases c : B n 8 = 0 ∧ B q 3 < B n 3
      · rw [if_pos c]
        have hlt := c.2
        rw [fa_lt] at hlt
        refine Or.inr ⟨n, by omega, rfl, rfl, c.1, fun i hi z => ?_, fun i hi z => ?_⟩
        · by_cases y : i = n
          · rw [y, fa_le]; omega
          · have := h1 i (by omega) z
            rw [fa_le] at *
            omega
        · have := h1 i (by omega) z
          rw [fa_le] at this
          rw [fa_lt]
          omega
      · rw [if_neg c, e1, e2]
        refine Or.inr ⟨q, by omega, rfl, rfl, h8, fun i hi z => ?_, h2⟩
        by_cases y : i = n
        · subst y
          exact i_nlt.mp (fun x => c ⟨z, x⟩)
        · exact h1 i (by omega) z
theorem ahead_01 (b o : Nat → Int32) : p_ahead b o = 0 ∨ p_ahead b o = 1 := by
  unfold p_ahead
  split <;> split
  · exact Or.inr rfl
  · exact Or.inl rfl
  · exact Or.inr rfl
  · exact Or.inl rfl
theorem rk_no {B : Nat → Nat → Int32} {o : Nat → Int32} : ∀ {n : Nat}, (∀ i, i < n → p_ahead (B i) o = 0) → p_rk B o n = 0
  | 0, _ => rfl
  | n + 1, h => by rw [p_rk, if_pos (h n (by omega)), rk_no (fun i hi => h i (by omega))]
theorem rk_win {B : Nat → Nat → Int32} {n q : Nat} (h8 : ¬ B q 8 = 0) (h : ∀ i, i < n → ¬ B i 8 = 0 → p_time (B q) ≤ p_time (B i)) : p_rk B (B q) n = 0 := by
  refine rk_no (fun i hi => ?_)
  unfold p_ahead
  by_cases c : B i 8 = 0
  · rw [if_pos c, if_neg (fun z => h8 z.1)]
  · rw [if_neg c, if_neg (fun z => z.elim h8 (i_nlt.mpr (h i hi c)))]
theorem rk_lead {B : Nat → Nat → Int32} {n q : Nat} (h0 : ∀ i, i < n → B i 8 = 0) (h : ∀ i, i < n → B i 8 = 0 → B i 3 ≤ B q 3) : p_rk B (B q) n = 0 := by
  refine rk_no (fun i hi => ?_)
  unfold p_ahead
  rw [if_pos (h0 i hi), if_neg (fun z => i_nlt.mpr (h i hi (h0 i hi)) z.2)]
/-- somebody has the rank 1 -/
theorem rk_one {B : Nat → Nat → Int32} {n : Nat} (h0 : 0 < n) (hn : n < 2 ^ 31) (h : ∀ i, i < n → 0 ≤ B i 3) : ∃ q, q < n ∧ p_rk B (B q) n = 0 := by
  rcases win_spec (B := B) hn with ⟨-, hw⟩ | ⟨q, hq, -, -, h8, h1, -⟩
  · rcases lead_spec (B := B) h with ⟨-, -, hl⟩ | ⟨q, hq, -, -, h8, h1, -⟩
    · exact absurd (hw 0 h0) (hl 0 h0)
    · exact ⟨q, hq, rk_lead hw h1⟩
  · exact ⟨q, hq, rk_win h8 h1⟩
/-- how many of the first k have the rank 1 -/
def p_ones (B : Nat → Nat → Int32) (n : Nat) : Nat → Int32
  | 0 => 0
  | k + 1 => p_ones B n k + (if 1 + p_rk B (B k) n = 1 then 1 else 0)
theorem ones_cnt {B : Nat → Nat → Int32} {n : Nat} : ∀ {k : Nat}, ∃ c : Nat, c ≤ k ∧ p_ones B n k = nI c ∧ ((∃ q, q < k ∧ p_rk B (B q) n = 0) → 0 < c)
  | 0 => ⟨0, by omega, rfl, fun ⟨q, hq, _⟩ => absurd hq (by omega)⟩
  | k + 1 => by
    obtain ⟨c, hc, e, h⟩ := ones_cnt (B := B) (n := n) (k := k)
    rw [p_ones]
    by_cases z : 1 + p_rk B (B k) n = 1
    · rw [if_pos z]
      exact ⟨c + 1, by omega, by rw [e, nI_succ], fun _ => by omega⟩
    · rw [if_neg z]
      refine ⟨c, by omega, by rw [e]; simp, fun ⟨q, hq, e2⟩ => ?_⟩
      by_cases y : q = k
      · subst y
        exact absurd (by rw [e2]; rfl) z
      · exact h ⟨q, by omega, e2⟩
/-- ahead, as the law looks at it: by the facts 5, 6 and 0 -/
def l_ahead (b o : Nat → Int32) : Int32 := if p_fact b 5 = p_fact o 5 then (if p_fact o 5 = 1 then (if p_fact b 6 < p_fact o 6 then 1 else 0) else (if p_fact o 0 < p_fact b 0 then 1 else 0)) else (if p_fact b 5 = 1 then 1 else 0)
theorem l_ahead_eq (b o : Nat → Int32) : l_ahead b o = p_ahead b o := by
  show (if (if b 8 = 0 then (0 : Int32) else 1) = (if o 8 = 0 then 0 else 1) then (if (if o 8 = 0 then (0 : Int32) else 1) = 1 then (if p_time b < p_time o then (1 : Int32) else 0) else (if o 3 < b 3 then 1 else 0)) else (if (if b 8 = 0 then (0 : Int32) else 1) = 1 then 1 else 0)) = p_ahead b o
  unfold p_ahead
  by_cases hb : b 8 = 0 <;> by_cases ho : o 8 = 0 <;> simp [hb, ho]
/-! the race by hand's counts: from the last boat down to the boat j -/
theorem in_step {B : Nat → Nat → Int32} {j : Nat} : p_in B (j + 1) = p_in B j + (if B j 8 = 0 then 0 else 1) := by
  rw [p_in]
  split
  · simp
  · rfl
theorem lead_uni {B : Nat → Nat → Int32} {n q r : Nat} (hq : q < n) (hr : r < n) (q8 : B q 8 = 0) (r8 : B r 8 = 0) (h1 : ∀ i, i < n → B i 8 = 0 → B i 3 ≤ B q 3) (h2 : ∀ i, i < q → B i 8 = 0 → B i 3 < B q 3) (k1 : ∀ i, i < n → B i 8 = 0 → B i 3 ≤ B r 3) (k2 : ∀ i, i < r → B i 8 = 0 → B i 3 < B r 3) : q = r := by
  rcases Nat.lt_trichotomy q r with h | h | h
  · have a := k2 q h q8
    have b := h1 r hr r8
    rw [fa_lt] at a; rw [fa_le] at b; omega
  · exact h
  · have a := h2 r h r8
    have b := k1 q hq q8
    rw [fa_lt] at a; rw [fa_le] at b; omega
theorem win_uni {B : Nat → Nat → Int32} {n q r : Nat} (hq : q < n) (hr : r < n) (q8 : ¬ B q 8 = 0) (r8 : ¬ B r 8 = 0) (h1 : ∀ i, i < n → ¬ B i 8 = 0 → p_time (B q) ≤ p_time (B i)) (h2 : ∀ i, i < q → ¬ B i 8 = 0 → p_time (B q) < p_time (B i)) (k1 : ∀ i, i < n → ¬ B i 8 = 0 → p_time (B r) ≤ p_time (B i)) (k2 : ∀ i, i < r → ¬ B i 8 = 0 → p_time (B r) < p_time (B i)) : q = r := by
  rcases Nat.lt_trichotomy q r with h | h | h
  · have a := k2 q h q8
    have b := h1 r hr r8
    rw [fa_lt] at a; rw [fa_le] at b; omega
  · exact h
  · have a := h2 r h r8
    have b := k1 q hq q8
    rw [fa_lt] at a; rw [fa_le] at b; omega
/-- who leads of the boats from j on -/
def s_lead (B : Nat → Nat → Int32) (n j : Nat) (L : Int32) : Prop := (L = -1 ∧ ∀ i, j ≤ i → i < n → ¬ B i 8 = 0) ∨ ∃ q, j ≤ q ∧ q < n ∧ L = nI q ∧ B q 8 = 0 ∧ (∀ i, j ≤ i → i < n → B i 8 = 0 → B i 3 ≤ B q 3) ∧ ∀ i, j ≤ i → i < q → B i 8 = 0 → B i 3 < B q 3
/-- who wins of the boats from j on -/
def s_win (B : Nat → Nat → Int32) (n j : Nat) (L : Int32) : Prop := (L = -1 ∧ ∀ i, j ≤ i → i < n → B i 8 = 0) ∨ ∃ q, j ≤ q ∧ q < n ∧ L = nI q ∧ ¬ B q 8 = 0 ∧ (∀ i, j ≤ i → i < n → ¬ B i 8 = 0 → p_time (B q) ≤ p_time (B i)) ∧ ∀ i, j ≤ i → i < q → ¬ B i 8 = 0 → p_time (B q) < p_time (B i)
theorem s_lead_top (B : Nat → Nat → Int32) (n : Nat) : s_lead B n n (-1) := Or.inl ⟨rfl, fun i h1 h2 => absurd h1 (by omega)⟩
theorem s_win_top (B : Nat → Nat → Int32) (n : Nat) : s_win B n n (-1) := Or.inl ⟨rfl, fun i h1 h2 => absurd h1 (by omega)⟩
theorem s_lead_in {B : Nat → Nat → Int32} {n j : Nat} {L : Int32} (h : s_lead B n (j + 1) L) (h8 : ¬ B j 8 = 0) : s_lead B n j L := by
  rcases h with ⟨e, h⟩ | ⟨q, a, b, e, q8, h1, h2⟩
  · refine Or.inl ⟨e, fun i x y => ?_⟩
    by_cases z : i = j
    · rw [z]; exact h8
    · exact h i (by omega) y
  · refine Or.inr ⟨q, by omega, b, e, q8, fun i x y w => ?_, fun i x y w => ?_⟩
    · by_cases z : i = j
      · rw [z] at w; exact absurd w h8
      · exact h1 i (by omega) y w
    · by_cases z : i = j
      · rw [z] at w; exact absurd w h8
      · exact h2 i (by omega) y w
theorem s_win_out {B : Nat → Nat → Int32} {n j : Nat} {L : Int32} (h : s_win B n (j + 1) L) (h8 : B j 8 = 0) : s_win B n j L := by
  rcases h with ⟨e, h⟩ | ⟨q, a, b, e, q8, h1, h2⟩
  · refine Or.inl ⟨e, fun i x y => ?_⟩
    by_cases z : i = j
    · rw [z]; exact h8
    · exact h i (by omega) y
  · refine Or.inr ⟨q, by omega, b, e, q8, fun i x y w => ?_, fun i x y w => ?_⟩
    · by_cases z : i = j
      · rw [z] at w; exact absurd h8 w
      · exact h1 i (by omega) y w
    · by_cases z : i = j
      · rw [z] at w; exact absurd h8 w
      · exact h2 i (by omega) y w
theorem s_lead_none {B : Nat → Nat → Int32} {n j : Nat} {L : Int32} (hj : j < n) (h : s_lead B n (j + 1) L) (hL : L < 0) (h8 : B j 8 = 0) (hn : n < 2 ^ 31) : s_lead B n j (nI j) := by
  rcases h with ⟨e, h⟩ | ⟨q, a, b, e, -⟩
  · refine Or.inr ⟨j, by omega, hj, rfl, h8, fun i x y w => ?_, fun i x y _ => absurd y (by omega)⟩
    by_cases z : i = j
    · rw [z, fa_le]; omega
    · exact absurd w (h i (by omega) y)
  · rw [e] at hL; exact absurd hL (nI_pos (by omega))
theorem s_lead_new {B : Nat → Nat → Int32} {n j q : Nat} (hj : j < n) (hq : q < 2 ^ 31) (h : s_lead B n (j + 1) (nI q)) (hc : B q 3 ≤ B j 3) (h8 : B j 8 = 0) (hn : n < 2 ^ 31) : s_lead B n j (nI j) := by
  rcases h with ⟨e, -⟩ | ⟨r, a, b, e, q8, h1, h2⟩
  · exact absurd e (nI_ne_m1 hq)
  · have e2 : q = r := (nI_eq hq (by omega)).mp e
    subst e2
    refine Or.inr ⟨j, by omega, hj, rfl, h8, fun i x y w => ?_, fun i x y _ => absurd y (by omega)⟩
    by_cases z : i = j
    · rw [z, fa_le]; omega
    · have := h1 i (by omega) y w
      rw [fa_le] at *
      omega
theorem s_lead_old {B : Nat → Nat → Int32} {n j q : Nat} (hq : q < 2 ^ 31) (h : s_lead B n (j + 1) (nI q)) (hc : B j 3 < B q 3) (hn : n < 2 ^ 31) : s_lead B n j (nI q) := by
  rcases h with ⟨e, -⟩ | ⟨r, a, b, e, q8, h1, h2⟩
  · exact absurd e (nI_ne_m1 hq)
  · have e2 : q = r := (nI_eq hq (by omega)).mp e
    subst e2
    refine Or.inr ⟨q, by omega, b, rfl, q8, fun i x y w => ?_, fun i x y w => ?_⟩
    · by_cases z : i = j
      · rw [z, fa_le]
        rw [fa_lt] at hc
        omega
      · exact h1 i (by omega) y w
    · by_cases z : i = j
      · rw [z]; exact hc
      · exact h2 i (by omega) y w
theorem s_win_none {B : Nat → Nat → Int32} {n j : Nat} {L : Int32} (hj : j < n) (h : s_win B n (j + 1) L) (hL : L < 0) (h8 : ¬ B j 8 = 0) (hn : n < 2 ^ 31) : s_win B n j (nI j) := by
  rcases h with ⟨e, h⟩ | ⟨q, a, b, e, -⟩
  · refine Or.inr ⟨j, by omega, hj, rfl, h8, fun i x y w => ?_, fun i x y _ => absurd y (by omega)⟩
    by_cases z : i = j
    · rw [z, fa_le]; omega
    · exact absurd (h i (by omega) y) w
  · rw [e] at hL; exact absurd hL (nI_pos (by omega))
theorem s_win_new {B : Nat → Nat → Int32} {n j q : Nat} (hj : j < n) (hq : q < 2 ^ 31) (h : s_win B n (j + 1) (nI q)) (hc : p_time (B j) ≤ p_time (B q)) (h8 : ¬ B j 8 = 0) (hn : n < 2 ^ 31) : s_win B n j (nI j) := by
  rcases h with ⟨e, -⟩ | ⟨r, a, b, e, q8, h1, h2⟩
  · exact absurd e (nI_ne_m1 hq)
  · have e2 : q = r := (nI_eq hq (by omega)).mp e
    subst e2
    refine Or.inr ⟨j, by omega, hj, rfl, h8, fun i x y w => ?_, fun i x y _ => absurd y (by omega)⟩
    by_cases z : i = j
    · rw [z, fa_le]; omega
    · have := h1 i (by omega) y w
      rw [fa_le] at *
      omega
theorem s_win_old {B : Nat → Nat → Int32} {n j q : Nat} (hq : q < 2 ^ 31) (h : s_win B n (j + 1) (nI q)) (hc : p_time (B q) < p_time (B j)) (hn : n < 2 ^ 31) : s_win B n j (nI q) := by
  rcases h with ⟨e, -⟩ | ⟨r, a, b, e, q8, h1, h2⟩
  · exact absurd e (nI_ne_m1 hq)
  · have e2 : q = r := (nI_eq hq (by omega)).mp e
    subst e2
    refine Or.inr ⟨q, by omega, b, rfl, q8, fun i x y w => ?_, fun i x y w => ?_⟩
    · by_cases z : i = j
      · rw [z, fa_le]
        rw [fa_lt] at hc
        omega
      · exact h1 i (by omega) y w
    · by_cases z : i = j
      · rw [z]; exact hc
      · exact h2 i (by omega) y w
theorem s_lead_end {B : Nat → Nat → Int32} {n : Nat} {L : Int32} (h : s_lead B n 0 L) (h3 : ∀ i, i < n → 0 ≤ B i 3) : L = (p_lead B n).1 := by
  rcases h with ⟨e, h⟩ | ⟨q, -, b, e, q8, h1, h2⟩
  · rcases lead_spec (B := B) h3 with ⟨e1, -, -⟩ | ⟨r, hr, -, -, r8, -⟩
    · rw [e, e1]
    · exact absurd r8 (h r (by omega) hr)
  · rcases lead_spec (B := B) h3 with ⟨-, -, hl⟩ | ⟨r, hr, e1, -, r8, k1, k2⟩
    · exact absurd q8 (hl q b)
    · rw [e, e1, lead_uni b hr q8 r8 (fun i x => h1 i (by omega) x) (fun i x => h2 i (by omega) x) k1 k2]
theorem s_win_end {B : Nat → Nat → Int32} {n : Nat} {L : Int32} (h : s_win B n 0 L) (hn : n < 2 ^ 31) : L = (p_win B n).1 := by
  rcases h with ⟨e, h⟩ | ⟨q, -, b, e, q8, h1, h2⟩
  · rcases win_spec (B := B) hn with ⟨e1, -⟩ | ⟨r, hr, -, -, r8, -⟩
    · rw [e, e1]
    · exact absurd (h r (by omega) hr) r8
  · rcases win_spec (B := B) hn with ⟨-, hl⟩ | ⟨r, hr, e1, -, r8, k1, k2⟩
    · exact absurd (hl q b) q8
    · rw [e, e1, win_uni b hr q8 r8 (fun i x => h1 i (by omega) x) (fun i x => h2 i (by omega) x) k1 k2]
/-! arrives -/
section
variable {w p g f b : Nat → Int32} {nw T : Nat}
theorem boat_next : ∀ j : Nat, p_boat w p g nw (T + 1) f (p_tick w p g nw (nI T) f b) j = p_boat w p g nw T f b (j + 1)
  | 0 => rfl
  | j + 1 => by
    rw [p_boat, boat_next j, show T + 1 + j = T + (j + 1) by omega]
    rfl
theorem arr_or : ∀ {k j : Nat}, (p_arr w p g nw T f b j k = -1 ∧ ∀ i, j ≤ i → i < j + k → p_boat w p g nw T f b i 8 = 0) ∨ ∃ m, j ≤ m ∧ m < j + k ∧ p_arr w p g nw T f b j k = nI m ∧ ¬ p_boat w p g nw T f b m 8 = 0 ∧ ∀ i, j ≤ i → i < m → p_boat w p g nw T f b i 8 = 0
  | 0, j => Or.inl ⟨rfl, fun i h1 h2 => absurd h1 (by omega)⟩
  | k + 1, j => by
    rw [p_arr]
    by_cases h : p_boat w p g nw T f b j 8 = 0
    · rw [if_pos h]
      rcases arr_or (k := k) (j := j + 1) with ⟨e, h1⟩ | ⟨m, a, c, e, h1, h2⟩
      · refine Or.inl ⟨e, fun i x y => ?_⟩
        by_cases z : i = j
        · rw [z]; exact h
        · exact h1 i (by omega) (by omega)
      · refine Or.inr ⟨m, by omega, by omega, e, h1, fun i x y => ?_⟩
        by_cases z : i = j
        · rw [z]; exact h
        · exact h2 i (by omega) y
    · rw [if_neg h]
      exact Or.inr ⟨j, by omega, by omega, rfl, h, fun i x y => absurd x (by omega)⟩
theorem arr_in (h : ¬ b 8 = 0) : p_arr w p g nw T f b 0 401 = 0 := by
  rw [p_arr]
  exact (if_neg (show ¬ p_boat w p g nw T f b 0 8 = 0 from h)).trans rfl
theorem arr_1 (h : b 8 = 0) : p_arr w p g nw T f b 0 401 = 1 ↔ ¬ p_tick w p g nw (nI T) f b 8 = 0 := by
  have e1 : p_boat w p g nw T f b 1 8 = p_tick w p g nw (nI T) f b 8 := rfl
  rcases arr_or (w := w) (p := p) (g := g) (f := f) (b := b) (nw := nw) (T := T) (k := 401) (j := 0) with ⟨e, h1⟩ | ⟨m, a, c, e, h1, h2⟩
  · rw [e]
    exact ⟨fun z => absurd z (by decide), fun z => absurd (h1 1 (by omega) (by omega)) (by rw [e1]; exact z)⟩
  · rw [e]
    refine ⟨fun z => ?_, fun z => ?_⟩
    · have : m = 1 := (nI_eq (by omega) (by omega)).mp z
      subst this
      rw [← e1]; exact h1
    · have h0 : ¬ m = 0 := fun q => by subst q; exact h1 h
      have hm : ¬ 1 < m := fun q => z (by rw [← e1]; exact h2 1 (by omega) q)
      have : m = 1 := by omega
      rw [this]; rfl
theorem arr_next (h : b 8 = 0) (h1 : 1 < p_arr w p g nw T f b 0 401) : p_arr w p g nw (T + 1) f (p_tick w p g nw (nI T) f b) 0 401 = p_arr w p g nw T f b 0 401 - 1 := by
  rcases arr_or (w := w) (p := p) (g := g) (f := f) (b := b) (nw := nw) (T := T) (k := 401) (j := 0) with ⟨e, -⟩ | ⟨m, a, c, e, k1, k2⟩
  · rw [e] at h1; exact absurd h1 (by decide)
  · rw [e] at h1 ⊢
    have hm : 1 < m := (nI_ltI (by omega) (by omega)).mp h1
    obtain ⟨m', rfl⟩ : ∃ m', m = m' + 1 := ⟨m - 1, by omega⟩
    rw [nI_pred]
    rcases arr_or (w := w) (p := p) (g := g) (f := f) (b := p_tick w p g nw (nI T) f b) (nw := nw) (T := T + 1) (k := 401) (j := 0) with ⟨-, q1⟩ | ⟨r, a1, c1, e1, q1, q2⟩
    · have := q1 m' (by omega) (by omega)
      rw [boat_next] at this
      exact absurd this k1
    · rw [e1]
      rw [boat_next] at q1
      have h3 : ¬ r < m' := fun z => q1 (k2 (r + 1) (by omega) (by omega))
      have h4 : ¬ m' < r := fun z => by
        have := q2 m' (by omega) z
        rw [boat_next] at this
        exact k1 this
      rw [show r = m' by omega]
end
/-! advise -/
theorem adv_or {w p g f b : Nat → Int32} {nw T m : Nat} : ∀ {k : Nat}, k ≤ 16 → ∃ i, i < 16 ∧ (p_advi w p g nw T f b m k).1 = nI (p_adt i)
  | 0, _ => ⟨0, by omega, rfl⟩
  | k + 1, h => by
    rw [p_advi]
    split
    · exact ⟨k, by omega, rfl⟩
    · exact adv_or (by omega)
theorem dec_adt : ∀ i, i < 16 → ¬ nI (p_adt i) < 0 ∧ ¬ 33 < nI (p_adt i) ∧ ¬ 3 < p_rem (nI (p_adt i)) 10 := by decide +kernel
theorem adv_rng {w p g f b : Nat → Int32} {nw T m : Nat} : ¬ (p_advi w p g nw T f b m 16).1 < 0 ∧ ¬ 33 < (p_advi w p g nw T f b m 16).1 ∧ ¬ 3 < p_rem (p_advi w p g nw T f b m 16).1 10 := by
  obtain ⟨i, hi, e⟩ := adv_or (w := w) (p := p) (g := g) (f := f) (b := b) (nw := nw) (T := T) (m := m) (k := 16) (Nat.le_refl _)
  rw [e]
  exact dec_adt i hi
