/-! ===== both sides in numbers: codes ===== -/
theorem i_lt1 {x : Int32} {k : Nat} (hk : k + 1 < 2 ^ 31) : x ≤ nI k ↔ x < nI (k + 1) := by
  rw [fa_le, fa_lt]
  have e1 : (nI k).toInt = (k : Int) := nI_toInt (by omega)
  have e2 : (nI (k + 1)).toInt = ((k + 1 : Nat) : Int) := nI_toInt hk
  omega
theorem c_water_eq (l x : Int32) : cm_water l x = c_water l x := by
  unfold cm_water c_water
  have e : (0 ≤ l ∧ l ≤ 4) ↔ p_lane l := and_congr Iff.rfl (i_lt1 (k := 4) (by decide))
  have e2 : (x < 0 ∨ 6 < x) ↔ ¬ (0 ≤ x ∧ x ≤ 6) := by
    constructor
    · rintro (h | h) ⟨a, b⟩
      · exact i_nlt.mpr a h
      · exact i_nlt.mpr b h
    · intro h
      rcases Classical.em (0 ≤ x) with a | a
      · right; exact i_nle.mp (fun b => h ⟨a, b⟩)
      · left; exact i_nle.mp a
  by_cases h : 0 ≤ l ∧ l ≤ 4
  · rw [if_pos h, if_pos (e.mp h)]
    by_cases h2 : 0 ≤ x ∧ x ≤ 6
    · rw [if_pos h2, if_neg (fun q => e2.mp q h2)]
    · rw [if_neg h2, if_pos (e2.mpr h2)]
  · rw [if_neg h, if_neg (fun q => h (e.mpr q))]
theorem m_free_eq {p : Nat → Int32} {x : Int32} {nw : Nat} : ∀ k : Nat, m_free p x nw k = if nI nw < 6 then (if p_has p x k = 0 then 1 else 0) else 0
  | 0 => by
    rw [m_free, p_has]
    by_cases h : nI nw < 6
    · rw [if_pos h, if_pos h, if_pos rfl]
    · rw [if_neg h, if_neg h]
  | k + 1 => by
    rw [m_free, m_free_eq k, p_has]
    have h01 : p_has p x k = 0 ∨ p_has p x k = 1 := by
      cases k with
      | zero => exact Or.inl rfl
      | succ k => rw [p_has]; split; exact Or.inr rfl; exact Or.inl rfl
    by_cases h : nI nw < 6
    · rw [if_pos h, if_pos h]
      rcases h01 with q | q
      · rw [q, if_pos rfl]
        by_cases hx : p k = x
        · rw [if_pos hx, if_pos (Or.inr hx)]; decide
        · rw [if_neg hx, if_neg (fun a : (0 : Int32) = 1 ∨ p k = x => a.elim (fun b => absurd b (by decide)) hx)]; decide
      · rw [q, if_neg (by decide : ¬ (1 : Int32) = 0), if_pos (Or.inl rfl), if_neg (by decide : ¬ (1 : Int32) = 0)]
        split <;> decide
    · rw [if_neg h, if_neg h]
      split <;> decide
theorem c_weir_eq (p : Nat → Int32) (nw : Nat) (x y : Int32) : cm_weir p nw x y = c_weir p nw x y := by
  unfold cm_weir c_weir
  rw [m_free_eq]
  have e : (0 ≤ y ∧ y ≤ 4) ↔ p_lane y := and_congr Iff.rfl (i_lt1 (k := 4) (by decide))
  have e2 : (x < 1 ∨ 200 ≤ x) ↔ ¬ (1 ≤ x ∧ x ≤ 199) := by
    have e3 : x ≤ 199 ↔ x < 200 := i_lt1 (k := 199) (by decide)
    constructor
    · rintro (h | h) ⟨a, b⟩
      · exact i_nlt.mpr a h
      · exact i_nlt.mpr h (e3.mp b)
    · intro h
      rcases Classical.em (1 ≤ x) with a | a
      · right; exact i_nlt.mp (fun b => h ⟨a, e3.mpr b⟩)
      · left; exact i_nle.mp a
  by_cases h : 1 ≤ x ∧ x ≤ 199
  · rw [if_neg (fun q => e2.mp q h)]
    by_cases hy : 0 ≤ y ∧ y ≤ 4
    · rw [if_pos ⟨h, hy⟩, if_pos (e.mp hy)]
      by_cases h6 : nI nw < 6
      · rw [if_pos h6, if_pos h6]
        by_cases hp : p_has p x nw = 0
        · rw [if_pos hp, if_pos hp, if_neg (by decide)]
        · rw [if_neg hp, if_neg hp, if_pos rfl]
      · rw [if_neg h6, if_neg h6, if_pos rfl]
    · rw [if_neg (fun q => hy q.2), if_neg (fun q => hy (e.mpr q))]
  · rw [if_neg (fun q => h q.1), if_pos (e2.mpr h)]
theorem c_launch_eq {n : Nat} (hn : n ≤ 6) (l x : Int32) : cm_launch n l x = c_launch n l x := by
  unfold cm_launch c_launch
  have e : (0 ≤ l ∧ l ≤ 4) ↔ p_lane l := and_congr Iff.rfl (i_lt1 (k := 4) (by decide))
  have e2 : (x < 1 ∨ 8 < x) ↔ ¬ (1 ≤ x ∧ x ≤ 8) := by
    constructor
    · rintro (h | h) ⟨a, b⟩
      · exact i_nlt.mpr a h
      · exact i_nlt.mpr b h
    · intro h
      rcases Classical.em (1 ≤ x) with a | a
      · right; exact i_nle.mp (fun b => h ⟨a, b⟩)
      · left; exact i_nle.mp a
  have e6 : nI n = 6 ↔ ¬ nI n < 6 := by
    have : ∀ m, m < 7 → (nI m = 6 ↔ ¬ nI m < 6) := by decide +kernel
    exact this n (by omega)
  by_cases h : 0 ≤ l ∧ l ≤ 4
  · rw [if_pos (e.mp h)]
    by_cases hx : 1 ≤ x ∧ x ≤ 8
    · rw [if_pos ⟨h, hx⟩, if_neg (fun q => e2.mp q hx)]
      by_cases h6 : nI n = 6
      · rw [if_pos h6, if_neg (e6.mp h6)]
      · rw [if_neg h6, if_pos (Decidable.not_not.mp (fun q => h6 (e6.mpr q)))]
    · rw [if_neg (fun q => hx q.2), if_pos (e2.mpr hx)]
  · rw [if_neg (fun q => h q.1), if_neg (fun q => h (e.mpr q))]
theorem c_paddle_eq (n : Nat) (x len d : Int32) : cm_paddle n x len d = c_paddle n x len d := by
  unfold cm_paddle c_paddle
  have e2 : (len < 1 ∨ 6 < len) ↔ ¬ (1 ≤ len ∧ len ≤ 6) := by
    constructor
    · rintro (h | h) ⟨a, b⟩
      · exact i_nlt.mpr a h
      · exact i_nlt.mpr b h
    · intro h
      rcases Classical.em (1 ≤ len) with a | a
      · right; exact i_nle.mp (fun b => h ⟨a, b⟩)
      · left; exact i_nle.mp a
  by_cases h : p_isb n x
  · rw [if_pos h, if_pos h]
    by_cases hl : 1 ≤ len ∧ len ≤ 6
    · rw [if_neg (fun q => e2.mp q hl)]
      by_cases hp : p_pat len.toNatClampNeg d
      · rw [if_pos ⟨hl, hp⟩, if_pos hp]
      · rw [if_neg (fun q => hp q.2), if_neg hp]
    · rw [if_neg (fun q => hl q.1), if_pos (e2.mpr hl)]
  · rw [if_neg h, if_neg h]
theorem c_tar_eq {n : Nat} {S : Nat → Nat → Int32} {str : Nat → Int32} {B : Nat → Nat → Int32} (hB : ∀ i, i < n → B i = mb S str i) (hn : n ≤ 6) (x : Int32) : cm_tar n S x = c_tar n B x := by
  unfold cm_tar c_tar
  by_cases h : p_isb n x
  · rw [if_pos h, if_pos h]
    obtain ⟨u, hu, rfl⟩ := ix_nat h (by omega)
    rw [nI_clamp (by omega), hB u hu]
    by_cases h5 : S 5 u = -1
    · rw [if_pos h5, if_pos ((mb_89 u).mpr h5)]
    · rw [if_neg h5, if_neg (fun q => h5 ((mb_89 u).mp q))]
  · rw [if_neg h, if_neg h]
/-! ===== answers ===== -/
section
variable {w p g : Nat → Int32} {nw n T : Nat} {str : Nat → Int32} {S : Nat → Nat → Int32} {B F : Nat → Nat → Int32}
/-- the rows of strokes agree as far as the length -/
def fs_ok (n : Nat) (S F : Nat → Nat → Int32) : Prop := ∀ i, i < n → ∀ j, j < (S 8 i).toNatClampNeg → F i j = m_row (S 9 i) (S 8 i) j
theorem p_stk_congr {b f f1 : Nat → Int32} {t : Int32} (hb : 1 ≤ b 1 ∧ b 1 ≤ 6) (ht : 0 ≤ t) (hf : ∀ j, j < (b 1).toNatClampNeg → f j = f1 j) : p_stk b f t = p_stk b f1 t := by
  unfold p_stk
  by_cases h : b 1 < 1 ∨ 6 < b 1
  · rw [if_pos h, if_pos h]
  · rw [if_neg h, if_neg h]
    obtain ⟨e, h0, h6⟩ := nI_of1 hb
    obtain ⟨u, hu, rfl⟩ := nI_of (i_nlt.mpr ht)
    apply hf
    rw [e]
    show (nI u - nI u / nI _ * nI _).toNatClampNeg < _
    rw [pk_rem hu h0 (by omega), nI_clamp (by have := Nat.mod_lt u h0; omega), nI_clamp (by omega)]
    exact Nat.mod_lt u h0
theorem p_tick_congr {t : Int32} {f f1 b : Nat → Int32} (hb : 1 ≤ b 1 ∧ b 1 ≤ 6) (ht : 0 ≤ t) (hf : ∀ j, j < (b 1).toNatClampNeg → f j = f1 j) : p_tick w p g nw t f b = p_tick w p g nw t f1 b := by
  unfold p_tick
  rw [p_stk_congr hb ht hf]
theorem p_tick_1 {t : Int32} {f b : Nat → Int32} : p_tick w p g nw t f b 1 = b 1 := by
  unfold p_tick
  split
  · exact tickK_o (by omega)
  · rfl
theorem p_boat_1 {f b : Nat → Int32} : ∀ j : Nat, p_boat w p g nw T f b j 1 = b 1
  | 0 => rfl
  | j + 1 => p_tick_1.trans (p_boat_1 j)
theorem p_boat_congr {f f1 b : Nat → Int32} (hb : 1 ≤ b 1 ∧ b 1 ≤ 6) (hf : ∀ j, j < (b 1).toNatClampNeg → f j = f1 j) : ∀ {j : Nat}, T + j < 2 ^ 31 → p_boat w p g nw T f b j = p_boat w p g nw T f1 b j
  | 0, _ => rfl
  | j + 1, h => by
    rw [p_boat, p_boat, p_boat_congr hb hf (j := j) (by omega)]
    exact p_tick_congr (by rw [p_boat_1]; exact hb) (nI_pos' (by omega)) (by rw [p_boat_1]; exact hf)
theorem p_run_eq (hr : okr w p nw) (hok : ∀ q, q < n → okb (mb S str q)) (hB : ∀ i, i < n → B i = mb S str i) (hF : fs_ok n S F) {j : Nat} (hj : T + j < 2 ^ 31) : ∀ i, i < n → p_run w p g nw T n F B j i = mb (m_run w p g nw T n str S j) str i := fun i hi => by
  rw [(m_run_at hr hok j hj).2 i hi]
  simp only [p_run, if_pos hi]
  rw [hB i hi]
  exact p_boat_congr (hok i hi).1 (fun q hq => hF i hi q hq) hj
theorem p_arr_congr {f f1 b : Nat → Int32} (hb : 1 ≤ b 1 ∧ b 1 ≤ 6) (hf : ∀ j, j < (b 1).toNatClampNeg → f j = f1 j) : ∀ {k j : Nat}, T + j + k < 2 ^ 31 → p_arr w p g nw T f b j k = p_arr w p g nw T f1 b j k
  | 0, _, _ => rfl
  | k + 1, j, h => by
    rw [p_arr, p_arr, p_boat_congr hb hf (j := j) (by omega), p_arr_congr hb hf (k := k) (j := j + 1) (by omega)]
theorem p_rk_congr {C : Nat → Nat → Int32} {o : Nat → Int32} : ∀ {n : Nat}, (∀ i, i < n → B i = C i) → p_rk B o n = p_rk C o n
  | 0, _ => rfl
  | n + 1, h => by rw [p_rk, p_rk, p_rk_congr (fun i hi => h i (by omega)), h n (by omega)]
theorem p_psum_congr {C : Nat → Nat → Int32} : ∀ {n : Nat}, (∀ i, i < n → B i = C i) → p_psum B n = p_psum C n
  | 0, _ => rfl
  | n + 1, h => by rw [p_psum, p_psum, p_psum_congr (fun i hi => h i (by omega)), h n (by omega)]
theorem p_mean_congr {C : Nat → Nat → Int32} (h : ∀ i, i < n → B i = C i) : p_mean n B = p_mean n C := by
  unfold p_mean
  rw [p_psum_congr h]
theorem p_dgC_congr {C : Nat → Nat → Int32} (h : ∀ i, i < n → B i = C i) : ∀ v, p_dgC nw n T B v = p_dgC nw n T C v
  | 0 => rfl
  | v + 1 => by rw [p_dgC, p_dgC, p_dgC_congr h v, p_cnt_congr h v]
theorem p_dgS_congr {f f1 : Nat → Int32} {d : Int64} : ∀ {k : Nat}, (∀ j, j < k → f j = f1 j) → p_dgS f d k = p_dgS f1 d k
  | 0, _ => rfl
  | k + 1, h => by rw [p_dgS, p_dgS, p_dgS_congr (fun j hj => h j (by omega)), h k (by omega)]
theorem p_dgA_congr {C G : Nat → Nat → Int32} {Ln Lm : Nat → Nat} {d : Int64} {N : Nat} (h : ∀ i, i < N → B i = C i) (hL : ∀ i, i < N → Ln i = Lm i) (hF : ∀ i, i < N → ∀ j, j < Lm i → F i j = G i j) : ∀ {k : Nat}, k ≤ N → p_dgA N B F Ln d k = p_dgA N C G Lm d k
  | 0, _ => rfl
  | k + 1, hk => by
    rw [p_dgA, p_dgA, p_dgA_congr h hL hF (k := k) (by omega)]
    unfold p_dgB
    rw [hL k (by omega), h k (by omega), p_rk_congr h, p_dgS_congr (hF k (by omega))]
theorem p_dig_congr {C G : Nat → Nat → Int32} {Ln Lm : Nat → Nat} (h : ∀ i, i < n → B i = C i) (hL : ∀ i, i < n → Ln i = Lm i) (hF : ∀ i, i < n → ∀ j, j < Lm i → F i j = G i j) : p_dig w p g nw n T B F Ln = p_dig w p g nw n T C G Lm := by
  unfold p_dig
  rw [p_dgC_congr h 7, p_dgA_congr h hL hF (Nat.le_refl _)]
end
