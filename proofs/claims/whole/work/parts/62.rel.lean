theorem shr_div {d : Int32} (hd : 0 ≤ d) {k : Nat} (hk : k < 7) : p_shr d k = d / fTen k := by
  obtain ⟨D, hD, e⟩ := pat_stop hd
  have e0 : d = nI D := by have := e 0; simpa [p_shr] using this
  have hp : 10 ^ k < 2 ^ 31 := Nat.lt_of_le_of_lt (Nat.pow_le_pow_right (by decide) (by omega : k ≤ 6)) (by decide)
  rw [e k, ten_pow k hk, e0, pk_div hD (Nat.pow_pos (by decide)) hp]
theorem row_eq {f : Nat → Int32} {d : Int32} {len j : Nat} (hd : 0 ≤ d) (hl : len ≤ 6) (hj : j < len) : p_row f len d j = m_row d (nI len) j := by
  unfold p_row m_row
  rw [if_pos hj]
  obtain ⟨m, rfl⟩ : ∃ m, len = m + 1 := ⟨len - 1, by omega⟩
  rw [nI_pred, pk_sub (by omega), nI_clamp (by omega), shr_div hd (by omega), show m + 1 - 1 - j = m - j by omega]
/-- the class's boats are the reference's -/
def rel (n : Nat) (B F S : Nat → Nat → Int32) (str : Nat → Int32) : Prop :=
  (∀ i, i < n → B i = mb S str i) ∧ fs_ok n S F ∧ (∀ i, n ≤ i → i < 6 → B i = b_new) ∧ ∀ i, n ≤ i → ∀ k, (k = 3 ∨ k = 5 ∨ k = 6 ∨ k = 7 ∨ k = 10 ∨ k = 11) → mb S str i k = 0
theorem rel_0 : rel 0 (fun _ => b_new) (fun _ _ => 0) (fun _ _ => 0) (fun _ => 0) :=
  ⟨fun i hi => absurd hi (by omega), fun i hi => absurd hi (by omega), fun _ _ _ => rfl, fun i _ k hk => by rcases hk with rfl | rfl | rfl | rfl | rfl | rfl <;> rfl⟩
theorem mb_lau_ne {S : Nat → Nat → Int32} {str : Nat → Int32} {n q : Nat} {x y : Int32} (h : q ≠ n) : mb (m_lau S n x) (upd str n y) q = mb S str q := by
  have e : ∀ (f : Nat → Int32) (v : Int32), upd f n v q = f q := fun f v => if_neg h
  have e5 : m_lau S n x 5 q = S 5 q := e _ _
  funext k
  match k with
  | 0 => rfl
  | 1 => exact e _ _
  | 2 => exact e _ _
  | 3 => rfl
  | 4 => exact e _ _
  | 5 => rfl
  | 6 => rfl
  | 7 => rfl
  | 8 =>
    show (if m_lau S n x 5 q = -1 then (0 : Int32) else 1) = if S 5 q = -1 then 0 else 1
    rw [e5]
  | 9 =>
    show (if m_lau S n x 5 q = -1 then (0 : Int32) else m_lau S n x 5 q) = if S 5 q = -1 then 0 else S 5 q
    rw [e5]
  | 10 => rfl
  | 11 => rfl
  | k + 12 => rfl
theorem mb_lau {S : Nat → Nat → Int32} {str : Nat → Int32} {n : Nat} {x y : Int32} (h0 : ∀ k, (k = 3 ∨ k = 5 ∨ k = 6 ∨ k = 7 ∨ k = 10 ∨ k = 11) → mb S str n k = 0) : mb (m_lau S n x) (upd str n y) n = p_new b_new x y := by
  have e5 : m_lau S n x 5 n = -1 := pk_us
  unfold p_new
  funext k
  match k with
  | 0 => rfl
  | 1 => exact pk_us
  | 2 => exact pk_us
  | 3 => exact h0 3 (by decide)
  | 4 => exact pk_us
  | 5 => exact h0 5 (by decide)
  | 6 => exact h0 6 (by decide)
  | 7 => exact h0 7 (by decide)
  | 8 =>
    show (if m_lau S n x 5 n = -1 then (0 : Int32) else 1) = 0
    rw [e5, if_pos rfl]
  | 9 =>
    show (if m_lau S n x 5 n = -1 then (0 : Int32) else m_lau S n x 5 n) = 0
    rw [e5, if_pos rfl]
  | 10 => exact h0 10 (by decide)
  | 11 => exact h0 11 (by decide)
  | k + 12 =>
    show (0 : Int32) = va_up (va_up (va_up b_new 4 x) 2 y) 1 1 (k + 12)
    rw [va_up_ne _ _ (by omega), va_up_ne _ _ (by omega), va_up_ne _ _ (by omega)]
    rfl
theorem rel_launch {n : Nat} {B F S : Nat → Nat → Int32} {str : Nat → Int32} {x y : Int32} (h : rel n B F S str) (hn : n < 6) : rel (n + 1) (va_up B n (p_new (B n) x y)) (va_up F n (p_row (F n) 1 3)) (m_lau S n x) (upd str n y) := by
  obtain ⟨h1, h2, h3, h4⟩ := h
  refine ⟨fun i hi => ?_, fun i hi j hj => ?_, fun i hi h6 => ?_, fun i hi k hk => ?_⟩
  · by_cases q : i = n
    · subst q
      rw [va_up_self, h3 i (Nat.le_refl _) hn, mb_lau (h4 i (Nat.le_refl _))]
    · rw [va_up_ne _ _ q, mb_lau_ne q]; exact h1 i (by omega)
  · have e8 : m_lau S n x 8 = upd (S 8) n 1 := rfl
    have e9 : m_lau S n x 9 = upd (S 9) n 3 := rfl
    rw [e8] at hj ⊢
    rw [e9]
    by_cases q : i = n
    · subst q
      rw [pk_us] at hj ⊢
      rw [pk_us, va_up_self]
      exact row_eq (len := 1) (by decide) (by decide) hj
    · have e : ∀ (f : Nat → Int32) (v : Int32), upd f n v i = f i := fun f v => if_neg q
      rw [e] at hj ⊢
      rw [e, va_up_ne _ _ q]
      exact h2 i (by omega) j hj
  · rw [va_up_ne _ _ (by omega)]; exact h3 i (by omega) h6
  · rw [mb_lau_ne (by omega)]; exact h4 i (by omega) k hk
theorem okb_launch {n : Nat} {S : Nat → Nat → Int32} {str : Nat → Int32} {x y : Int32} (hok : ∀ q, q < n → okb (mb S str q)) (h4 : ∀ i, n ≤ i → ∀ k, (k = 3 ∨ k = 5 ∨ k = 6 ∨ k = 7 ∨ k = 10 ∨ k = 11) → mb S str i k = 0) (hx : p_lane x) (hy : 0 ≤ y ∧ y ≤ 8) : ∀ q, q < n + 1 → okb (mb (m_lau S n x) (upd str n y) q) := fun q hq => by
  by_cases e : q = n
  · subst e
    rw [mb_lau (h4 q (Nat.le_refl _))]
    exact ⟨(by decide : (1 : Int32) ≤ 1 ∧ (1 : Int32) ≤ 6), hy, (by decide : (0 : Int32) ≤ 0 ∧ (0 : Int32) ≤ 200), hx, (by decide : (-4 : Int32) ≤ 0 ∧ (0 : Int32) ≤ 4), (by decide : (0 : Int32) ≤ 0 ∧ (0 : Int32) ≤ 30), Or.inl ⟨rfl, rfl⟩⟩
  · rw [mb_lau_ne e]; exact hok q (by omega)
theorem rel_paddle {n u : Nat} {B F S : Nat → Nat → Int32} {str : Nat → Int32} {len d : Int32} (h : rel n B F S str) (hu : u < n) (hl : 1 ≤ len ∧ len ≤ 6) (hp : p_pat len.toNatClampNeg d) : rel n (va_up B u (va_up (B u) 1 len)) (va_up F u (p_row (F u) len.toNatClampNeg d)) (m_pad S u len d) str := by
  obtain ⟨h1, h2, h3, h4⟩ := h
  refine ⟨fun i hi => ?_, fun i hi j hj => ?_, fun i hi h6 => ?_, fun i hi k hk => ?_⟩
  · rw [mb_pad]
    by_cases q : i = u
    · subst q
      rw [va_up_self, if_pos rfl, h1 i hi]
    · rw [va_up_ne _ _ q, if_neg q]; exact h1 i hi
  · have e8 : m_pad S u len d 8 = upd (S 8) u len := rfl
    have e9 : m_pad S u len d 9 = upd (S 9) u d := rfl
    rw [e8] at hj ⊢
    rw [e9]
    by_cases q : i = u
    · subst q
      rw [pk_us] at hj ⊢
      rw [pk_us, va_up_self]
      obtain ⟨e1, e2, e3⟩ := nI_of1 hl
      generalize hm : len.toNatClampNeg = m at *
      rw [e1]
      exact row_eq hp.1 e3 hj
    · have e : ∀ (f : Nat → Int32) (v : Int32), upd f u v i = f i := fun f v => if_neg q
      rw [e] at hj ⊢
      rw [e, va_up_ne _ _ q]
      exact h2 i hi j hj
  · rw [va_up_ne _ _ (by omega)]; exact h3 i hi h6
  · rw [mb_pad, if_neg (by omega)]; exact h4 i hi k hk
theorem mb_tar {S : Nat → Nat → Int32} {str : Nat → Int32} {u : Nat} (q : Nat) : mb (m_tar S u) str q = if q = u then va_up (va_up (mb S str q) 6 0) 7 (mb S str q 7 + 4) else mb S str q := by
  have e3 : m_tar S u 3 = upd (S 3) u 0 := rfl
  have e4 : m_tar S u 4 = upd (S 4) u (S 4 u + 4) := rfl
  have hk : ∀ k, mb (m_tar S u) str q k = if k = 6 then upd (S 3) u 0 q else if k = 7 then upd (S 4) u (S 4 u + 4) q else mb S str q k := fun k => by
    match k with
    | 0 => rfl
    | 1 => rfl
    | 2 => rfl
    | 3 => rfl
    | 4 => rfl
    | 5 => rfl
    | 6 => rfl
    | 7 => rfl
    | 8 => rfl
    | 9 => rfl
    | 10 => rfl
    | 11 => rfl
    | k + 12 => rw [if_neg (by omega), if_neg (by omega)]; rfl
  funext k
  rw [hk]
  by_cases hq : q = u
  · subst hq
    rw [if_pos rfl]
    by_cases h7 : k = 7
    · subst h7
      rw [if_neg (by decide), if_pos rfl, va_up_self]
      exact pk_us
    · rw [va_up_ne _ _ h7, if_neg h7]
      by_cases h6 : k = 6
      · subst h6
        rw [if_pos rfl, va_up_self]
        exact pk_us
      · rw [va_up_ne _ _ h6, if_neg h6]
  · rw [if_neg hq]
    have e : ∀ (f : Nat → Int32) (v : Int32), upd f u v q = f q := fun f v => if_neg hq
    rw [e, e]
    by_cases h6 : k = 6
    · subst h6; rfl
    · rw [if_neg h6]
      by_cases h7 : k = 7
      · subst h7; rfl
      · rw [if_neg h7]
theorem rel_tar {n u : Nat} {B F S : Nat → Nat → Int32} {str : Nat → Int32} (h : rel n B F S str) (hu : u < n) : rel n (va_up B u (va_up (va_up (B u) 6 0) 7 (B u 7 + 4))) F (m_tar S u) str := by
  obtain ⟨h1, h2, h3, h4⟩ := h
  refine ⟨fun i hi => ?_, h2, fun i hi h6 => ?_, fun i hi k hk => ?_⟩
  · rw [mb_tar]
    by_cases q : i = u
    · subst q
      rw [va_up_self, if_pos rfl, h1 i hi]
    · rw [va_up_ne _ _ q, if_neg q]; exact h1 i hi
  · rw [va_up_ne _ _ (by omega)]; exact h3 i hi h6
  · rw [mb_tar, if_neg (by omega)]; exact h4 i hi k hk
theorem okb_tar {n u : Nat} {S : Nat → Nat → Int32} {str : Nat → Int32} (hok : ∀ q, q < n → okb (mb S str q)) : ∀ q, q < n → okb (mb (m_tar S u) str q) := fun q hq => by
  rw [mb_tar]
  split
  · obtain ⟨h1, h2, h3, h4, h5, h6, h7⟩ := hok q hq
    exact ⟨h1, h2, h3, h4, h5, (by decide : (0 : Int32) ≤ 0 ∧ (0 : Int32) ≤ 30), h7⟩
  · exact hok q hq
theorem rel_go {w p g : Nat → Int32} {nw n T j : Nat} {B F S : Nat → Nat → Int32} {str : Nat → Int32} (hr : okr w p nw) (hok : ∀ q, q < n → okb (mb S str q)) (h : rel n B F S str) (hj : T + j < 2 ^ 31) : rel n (p_run w p g nw T n F B j) F (m_run w p g nw T n str S j) str := by
  obtain ⟨h1, h2, h3, h4⟩ := h
  refine ⟨p_run_eq hr hok h1 h2 hj, fun i hi q hq => ?_, fun i hi h6 => ?_, fun i hi k hk => ?_⟩
  · rw [(m_run_89 j).1] at hq ⊢
    rw [(m_run_89 j).2]
    exact h2 i hi q hq
  · simp only [p_run, if_neg (Nat.not_lt.mpr hi)]
    exact h3 i hi h6
  · rw [(m_run_at hr hok j hj).1 i hi]; exact h4 i hi k hk
/-! advise: sixteen patterns, or thirty-four numbers of which some are none -/
section
variable {w p g : Nat → Int32} {nw n T u m : Nat} {str : Nat → Int32} {S B F : Nat → Nat → Int32}
theorem far_eq (hr : okr w p nw) (hok : ∀ q, q < n → okb (mb S str q)) (h : rel n B F S str) (hu : u < n) (hm : T + m < 2 ^ 31) {i : Nat} (hi : i < 2 ^ 31) : p_far w p g nw T (F u) (B u) m (nI i) = m_far w p g nw T n str S u m i := by
  have hok2 := okb_pad (u := u) (d := nI i) (len := 2) (by decide) hok
  have e := congrFun ((m_run_at (g := g) hr hok2 m hm).2 u hu) 3
  unfold p_far m_far
  refine Eq.trans ?_ e.symm
  have eb : mb (m_pad S u 2 (nI i)) str u = va_up (B u) 1 (nI 2) := by rw [mb_pad, if_pos rfl, h.1 u hu]; rfl
  have e8 : m_pad S u 2 (nI i) 8 u = nI 2 := pk_us
  have e9 : m_pad S u 2 (nI i) 9 u = nI i := pk_us
  rw [eb, e8, e9]
  refine congrFun (p_boat_congr (by rw [va_up_self]; decide) (fun j hj => ?_) hm) 3
  rw [va_up_self, nI_clamp (by decide)] at hj
  exact row_eq (nI_pos' hi) (by decide) hj
theorem far_pos (hr : okr w p nw) (hok : ∀ q, q < n → okb (mb S str q)) (hu : u < n) (hm : T + m < 2 ^ 31) {i : Nat} : -1 < m_far w p g nw T n str S u m i := by
  have hok2 := okb_pad (u := u) (d := nI i) (len := 2) (by decide) hok
  exact m1_lt (okb_run (g := g) hr hok2 hm u hu).2.2.1.1
theorem adv_skip {i : Nat} (h : ¬ p_rem (nI i) 10 ≤ 3) : m_adv w p g nw T n str S u m (i + 1) = m_adv w p g nw T n str S u m i := by
  rw [m_adv, if_neg h]
theorem adv_take {i k : Nat} (hr : okr w p nw) (hok : ∀ q, q < n → okb (mb S str q)) (h : rel n B F S str) (hu : u < n) (hm : T + m < 2 ^ 31) (hk : p_adt k = i) (hi : i < 2 ^ 31) (h3 : p_rem (nI i) 10 ≤ 3) (e : m_adv w p g nw T n str S u m i = p_advi w p g nw T (F u) (B u) m k) : m_adv w p g nw T n str S u m (i + 1) = p_advi w p g nw T (F u) (B u) m (k + 1) := by
  rw [m_adv, if_pos h3, p_advi, hk, e, far_eq hr hok h hu hm hi]
theorem adv_eq (hr : okr w p nw) (hok : ∀ q, q < n → okb (mb S str q)) (h : rel n B F S str) (hu : u < n) (hm : T + m < 2 ^ 31) : m_adv w p g nw T n str S u m 34 = p_advi w p g nw T (F u) (B u) m 16 := by
  have s : ∀ i, ¬ p_rem (nI i) 10 ≤ 3 → m_adv w p g nw T n str S u m (i + 1) = m_adv w p g nw T n str S u m i := fun i hi => adv_skip hi
  have t := fun (i k : Nat) (hk : p_adt k = i) (hi : i < 2 ^ 31) (h3 : p_rem (nI i) 10 ≤ 3) e => adv_take (g := g) (i := i) (k := k) hr hok h hu hm hk hi h3 e
  have h1 : m_adv w p g nw T n str S u m 1 = p_advi w p g nw T (F u) (B u) m 1 := by
    rw [m_adv, if_pos (by decide), p_advi]
    have e0 : p_adt 0 = 0 := rfl
    rw [e0, far_eq hr hok h hu hm (by decide)]
    have hp : (m_adv w p g nw T n str S u m 0).2 < m_far w p g nw T n str S u m 0 := far_pos hr hok hu hm
    have hp2 : (p_advi w p g nw T (F u) (B u) m 0).2 < m_far w p g nw T n str S u m 0 := far_pos hr hok hu hm
    rw [if_pos hp, if_pos hp2]
  have h4 := t 3 3 (by decide) (by decide) (by decide) (t 2 2 (by decide) (by decide) (by decide) (t 1 1 (by decide) (by decide) (by decide) h1))
  have h10 := (s 9 (by decide)).trans ((s 8 (by decide)).trans ((s 7 (by decide)).trans ((s 6 (by decide)).trans ((s 5 (by decide)).trans ((s 4 (by decide)).trans h4)))))
  have h14 := t 13 7 (by decide) (by decide) (by decide) (t 12 6 (by decide) (by decide) (by decide) (t 11 5 (by decide) (by decide) (by decide) (t 10 4 (by decide) (by decide) (by decide) h10)))
  have h20 := (s 19 (by decide)).trans ((s 18 (by decide)).trans ((s 17 (by decide)).trans ((s 16 (by decide)).trans ((s 15 (by decide)).trans ((s 14 (by decide)).trans h14)))))
  have h24 := t 23 11 (by decide) (by decide) (by decide) (t 22 10 (by decide) (by decide) (by decide) (t 21 9 (by decide) (by decide) (by decide) (t 20 8 (by decide) (by decide) (by decide) h20)))
  have h30 := (s 29 (by decide)).trans ((s 28 (by decide)).trans ((s 27 (by decide)).trans ((s 26 (by decide)).trans ((s 25 (by decide)).trans ((s 24 (by decide)).trans h24)))))
  exact t 33 15 (by decide) (by decide) (by decide) (t 32 14 (by decide) (by decide) (by decide) (t 31 13 (by decide) (by decide) (by decide) (t 30 12 (by decide) (by decide) (by decide) h30)))
end
