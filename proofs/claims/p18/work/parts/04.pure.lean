/-! ===== the state in numbers: a boat's fields 1 .. 11 (length, strength, place, lane, heading, soaked, fouls, in, tickIn, spins, stops) and its row of strokes; the river's rows ===== -/
abbrev bE (ad : Nat → Nat) (k : Nat) (b : Nat → Int32) : va_E := .inr (0, [.ref (ad (k + 1)), .int (b 1), .int (b 2), .int (b 3), .int (b 4), .int (b 5), .int (b 6), .int (b 7), .int (b 8), .int (b 9), .int (b 10), .int (b 11)])
abbrev rE (ad : Nat → Nat) (n : Nat) : va_E := .inr (2, [.ref (ad 2), .ref (ad 3), .ref (ad 4), .int (nI n)])
abbrev p_lane (x : Int32) : Prop := 0 ≤ x ∧ x < 5
def p_stop (p g : Nat → Int32) (fr to ln : Int32) : Nat → Int32
  | 0 => -1
  | i + 1 => if (fr < p i ∧ p i ≤ to) ∧ ¬ g i = ln ∧ (p_stop p g fr to ln i = -1 ∨ p i < p_stop p g fr to ln i) then p i else p_stop p g fr to ln i
def p_min (x y : Int32) : Int32 := if y < x then y else x
def p_max (x y : Int32) : Int32 := if x < y then y else x
def p_abs (x : Int32) : Int32 := if 0 ≤ x then x else 0 - x
/-- soak(x) -/
def p_soak (b : Nat → Int32) (x : Int32) : Nat → Int32 := va_up b 6 (p_min (b 6 + x) 30)
def p_push (b : Nat → Int32) (k : Int32) : Int32 := if k = 3 then b 2 else if k = 0 then 0 else b 2 / 2
/-- the heading behind a stroke, before the spin -/
def p_head (h k : Int32) : Int32 := if k = 1 then h + 1 else if k = 2 then h - 1 else h
abbrev p_spun (h : Int32) : Prop := 4 < h ∨ h < -4
def p_force (b : Nat → Int32) (k : Int32) : Int32 := if p_spun (p_head (b 5) k) then 0 else p_max 0 (p_push b k - b 6 / 6)
def p_turn (b : Nat → Int32) (k : Int32) : Nat → Int32 := if p_spun (p_head (b 5) k) then va_up (va_up b 5 0) 10 (b 10 + 1) else va_up b 5 (p_head (b 5) k)
def p_want (b : Nat → Int32) : Int32 := if b 5 < 2 then (if -2 < b 5 then b 4 else b 4 - 1) else b 4 + 1
def p_drift (b : Nat → Int32) : Nat → Int32 := if p_lane (p_want b) then va_up b 4 (p_want b) else va_up b 7 (b 7 + 3)
def p_way (w : Nat → Int32) (b : Nat → Int32) (f : Int32) : Int32 := f * (4 - p_abs (b 5)) / 4 + w (b 4).toNatClampNeg
def p_stops (w p g : Nat → Int32) (n : Nat) (b : Nat → Int32) (f : Int32) : Int32 := p_stop p g (b 3) (b 3 + p_way w b f) (b 4) n
def p_halt (b : Nat → Int32) (x : Int32) : Nat → Int32 := va_up (p_soak (va_up (va_up b 3 x) 5 0) 5) 11 (b 11 + 1)
def p_adv (w p g : Nat → Int32) (n : Nat) (b : Nat → Int32) (f : Int32) : Nat → Int32 :=
  if p_lane (b 4) then (if p_stops w p g n b f = -1 then va_up b 3 (p_min (b 3 + p_way w b f) 200) else p_halt b (p_stops w p g n b f)) else b
def p_rem (x y : Int32) : Int32 := x - x / y * y
def p_stk (b f : Nat → Int32) (t : Int32) : Int32 := if b 1 < 1 ∨ 6 < b 1 then 0 else f (p_rem t (b 1)).toNatClampNeg
def p_wet (t : Int32) (b : Nat → Int32) : Nat → Int32 := if p_rem t 4 = 0 then p_soak b 1 else b
def p_home (t : Int32) (b : Nat → Int32) : Nat → Int32 := if b 3 = 200 then va_up (va_up b 8 1) 9 t else b
/-- a tick of a boat with the stroke k -/
def p_tickK (w p g : Nat → Int32) (n : Nat) (t k : Int32) (b : Nat → Int32) : Nat → Int32 := p_home t (p_wet t (p_adv w p g n (p_drift (p_turn b k)) (p_force b k)))
def p_tick (w p g : Nat → Int32) (n : Nat) (t : Int32) (f b : Nat → Int32) : Nat → Int32 := if b 8 = 0 then p_tickK w p g n t (p_stk b f t) b else b
def p_time (b : Nat → Int32) : Int32 := if b 8 = 0 then -1 else b 9 + 1 + b 7
theorem pos_of {x : Int32} (h : 1 ≤ x) : 0 < x := by
  rw [fa_le] at h
  rw [fa_lt]
  have e1 : (1 : Int32).toInt = 1 := by decide
  have e0 : (0 : Int32).toInt = 0 := by decide
  omega
theorem xor_pos {x y : Int32} (hx : 0 ≤ x) (hy : 0 < y) : 0 ≤ x ^^^ y := by
  obtain ⟨a, ha, rfl⟩ := nI_of (i_nlt.mpr hx)
  obtain ⟨b, hb, rfl⟩ := nI_of (fun h : y < 0 => by rw [fa_lt] at h hy; omega)
  rw [fb_xorI]
  exact nI_pos' (Nat.xor_lt_two_pow ha hb)
theorem p_rem_toInt (x y : Int32) : (p_rem x y).toInt = x.toInt.tmod y.toInt := rem_toInt x y
theorem rem_rng {t d : Int32} (ht : 0 ≤ t) (hd : 0 < d) : 0 ≤ (p_rem t d).toInt ∧ (p_rem t d).toInt < d.toInt := by
  rw [fa_le] at ht
  rw [fa_lt] at hd
  have e0 : (0 : Int32).toInt = 0 := by decide
  rw [p_rem_toInt]
  exact ⟨Int.tmod_nonneg _ (by omega), Int.tmod_lt_of_pos _ (by omega)⟩
theorem rem_ix {t d : Int32} (ht : 0 ≤ t) (h1 : 1 ≤ d) (h6 : d ≤ 6) : vp_in (p_rem t d) 6 := by
  obtain ⟨a, b⟩ := rem_rng ht (pos_of h1)
  rw [fa_le] at h6
  have e6 : (6 : Int32).toInt = 6 := by decide
  exact vp_in_iff.mpr ⟨a, by omega⟩
theorem lane_ix {x : Int32} (h : p_lane x) : vp_in x 5 := by
  obtain ⟨h1, h2⟩ := h
  rw [fa_le] at h1
  rw [fa_lt] at h2
  have e0 : (0 : Int32).toInt = 0 := by decide
  have e5 : (5 : Int32).toInt = 5 := by decide
  exact vp_in_iff.mpr ⟨by omega, by omega⟩
/-- 1 where b is ahead of o, else 0 -/
def p_ahead (b o : Nat → Int32) : Int32 := if b 8 = 0 then (if o 8 = 0 ∧ o 3 < b 3 then 1 else 0) else (if o 8 = 0 ∨ p_time b < p_time o then 1 else 0)
def p_fact (b : Nat → Int32) : Nat → Int32
  | 0 => b 3
  | 1 => b 4
  | 2 => b 5
  | 3 => b 6
  | 4 => b 7
  | 5 => if b 8 = 0 then 0 else 1
  | 6 => p_time b
  | 7 => b 10
  | _ => b 11
def p_shr (d : Int32) : Nat → Int32
  | 0 => d
  | k + 1 => p_shr d k / 10
/-- the row of strokes behind takePattern, from the place j on -/
def p_rowK (f : Nat → Int32) (len : Nat) (d : Int32) (j : Nat) : Nat → Int32 := fun i => if j ≤ i ∧ i < len then p_rem (p_shr d (len - 1 - i)) 10 else f i
def p_row (f : Nat → Int32) (len : Nat) (d : Int32) : Nat → Int32 := fun i => if i < len then p_rem (p_shr d (len - 1 - i)) 10 else f i
theorem p_rowK_0 (f : Nat → Int32) (len : Nat) (d : Int32) : p_rowK f len d 0 = p_row f len d := by
  funext i; simp [p_rowK, p_row]
theorem p_rowK_top (f : Nat → Int32) (len : Nat) (d : Int32) : p_rowK f len d len = f := by
  funext i; exact if_neg (by omega)
theorem p_rowK_step {f : Nat → Int32} {len : Nat} {d : Int32} {j : Nat} (h : j < len) : upd (p_rowK f len d (j + 1)) j (p_rem (p_shr d (len - (j + 1))) 10) = p_rowK f len d j := by
  funext i
  by_cases hi : i = j
  · subst hi
    simp [upd, p_rowK, h, show len - 1 - i = len - (i + 1) by omega]
  · simp only [upd, if_neg hi, p_rowK]
    by_cases h2 : j ≤ i ∧ i < len
    · rw [if_pos h2, if_pos ⟨by omega, h2.2⟩]
    · rw [if_neg h2, if_neg (by omega)]
def p_pre : Nat → Int32
  | 0 => -1
  | j + 1 => nI j
theorem p_pre_m (j : Nat) : nI j + (-1) = p_pre j := by
  cases j with
  | zero => decide
  | succ j => exact pk_m1 j
def p_has (p : Nat → Int32) (x : Int32) : Nat → Int32
  | 0 => 0
  | i + 1 => if p_has p x i = 1 ∨ p i = x then 1 else 0
theorem p_has_yes {p : Nat → Int32} {x : Int32} {i n : Nat} (hi : i < n) (h : p i = x) : p_has p x n = 1 := by
  induction n with
  | zero => omega
  | succ n ih =>
    rcases Nat.lt_or_ge i n with q | q
    · rw [p_has, if_pos (Or.inl (ih q))]
    · have : i = n := by omega
      subst this
      rw [p_has, if_pos (Or.inr h)]
def p_next (p : Nat → Int32) (pl : Int32) : Nat → Int32
  | 0 => -1
  | i + 1 => if pl < p i ∧ (p_next p pl i = -1 ∨ p i < p_next p pl i) then p i else p_next p pl i
def p_in (B : Nat → Nat → Int32) : Nat → Int32
  | 0 => 0
  | i + 1 => if B i 8 = 0 then p_in B i else p_in B i + 1
def p_fsum (B : Nat → Nat → Int32) : Nat → Int32
  | 0 => 0
  | i + 1 => p_fsum B i + B i 7
def p_psum (B : Nat → Nat → Int32) : Nat → Int32
  | 0 => 0
  | i + 1 => p_psum B i + B i 3
def p_lead (B : Nat → Nat → Int32) : Nat → Int32 × Int32
  | 0 => (-1, -1)
  | i + 1 => if B i 8 = 0 ∧ (p_lead B i).2 < B i 3 then (nI i, B i 3) else p_lead B i
def p_win (B : Nat → Nat → Int32) : Nat → Int32 × Int32
  | 0 => (-1, 0)
  | i + 1 => if ¬ B i 8 = 0 ∧ ((p_win B i).1 = -1 ∨ p_time (B i) < (p_win B i).2) then (nI i, p_time (B i)) else p_win B i
def p_rk (B : Nat → Nat → Int32) (o : Nat → Int32) : Nat → Int32
  | 0 => 0
  | i + 1 => if p_ahead (B i) o = 0 then p_rk B o i else p_rk B o i + 1
/-- a boat behind j ticks from the tick T on -/
def p_boat (w p g : Nat → Int32) (n T : Nat) (f : Nat → Int32) (b : Nat → Int32) : Nat → Nat → Int32
  | 0 => b
  | j + 1 => p_tick w p g n (nI (T + j)) f (p_boat w p g n T f b j)
/-- all boats behind j ticks, those below k one tick more -/
def p_mid (w p g : Nat → Int32) (nw T n : Nat) (F B : Nat → Nat → Int32) (j k : Nat) : Nat → Nat → Int32 := fun i => if i < n then p_boat w p g nw T (F i) (B i) (if i < k then j + 1 else j) else B i
def p_run (w p g : Nat → Int32) (nw T n : Nat) (F B : Nat → Nat → Int32) (j : Nat) : Nat → Nat → Int32 := fun i => if i < n then p_boat w p g nw T (F i) (B i) j else B i
theorem p_mid_0 {w p g : Nat → Int32} {nw T n : Nat} {F B : Nat → Nat → Int32} {j : Nat} : p_mid w p g nw T n F B j 0 = p_run w p g nw T n F B j := by
  funext i; simp [p_mid, p_run]
theorem p_mid_n {w p g : Nat → Int32} {nw T n : Nat} {F B : Nat → Nat → Int32} {j : Nat} : p_mid w p g nw T n F B j n = p_run w p g nw T n F B (j + 1) := by
  funext i
  by_cases h : i < n <;> simp [p_mid, p_run, h]
theorem p_mid_s {w p g : Nat → Int32} {nw T n : Nat} {F B : Nat → Nat → Int32} {j k : Nat} (hk : k < n) : va_up (p_mid w p g nw T n F B j k) k (p_tick w p g nw (nI (T + j)) (F k) (p_mid w p g nw T n F B j k k)) = p_mid w p g nw T n F B j (k + 1) := by
  funext i
  by_cases h : i = k
  · subst h
    simp [va_up, p_mid, hk, p_boat]
  · rw [va_up_ne _ _ h]
    by_cases h2 : i < n
    · simp only [p_mid, if_pos h2]
      by_cases h3 : i < k
      · rw [if_pos h3, if_pos (by omega)]
      · rw [if_neg h3, if_neg (by omega)]
    · simp only [p_mid, if_neg h2]
theorem p_run_0 {w p g : Nat → Int32} {nw T n : Nat} {F B : Nat → Nat → Int32} : p_run w p g nw T n F B 0 = B := by
  funext i
  by_cases h : i < n <;> simp [p_run, h, p_boat]
/-- a fleet: its object at fb, its row at fb + 1, the boat i at fb + 2 + 2 i, its strokes behind it -/
def fl_row (ad : Nat → Nat) (fb : Nat) : Nat → Option Nat := fun i => if i < 6 then some (ad (fb + 2 + 2 * i)) else none
theorem fl_row_at {ad : Nat → Nat} {fb i : Nat} (h : i < 6) : va_rf (fl_row ad fb i) = .ref (ad (fb + 2 + 2 * i)) := by
  unfold fl_row
  rw [if_pos h]
  rfl
def fl_at (cI cB : ClassId) (ad : Nat → Nat) (E : Nat → va_E) (fb n T : Nat) (B F : Nat → Nat → Int32) : Prop :=
  E fb = .inr (1, [.ref (ad (fb + 1)), .int (nI n), .int (nI T)]) ∧ E (fb + 1) = .inl (cB, 6, .inr (.inr (.inr (.inr (fl_row ad fb))))) ∧ ∀ i, i < 6 → E (fb + 2 + 2 * i) = bE ad (fb + 2 + 2 * i) (B i) ∧ E (fb + 2 + 2 * i + 1) = .inl (cI, 6, .inl (F i))
theorem fl_at.kept {cI cB : ClassId} {ad : Nat → Nat} {E E1 : Nat → va_E} {fb n T : Nat} {B F : Nat → Nat → Int32} (h : fl_at cI cB ad E fb n T B F) (hk : ∀ q, fb ≤ q → q < fb + 14 → E1 q = E q) : fl_at cI cB ad E1 fb n T B F := by
  obtain ⟨h1, h2, h3⟩ := h
  refine ⟨(hk _ (by omega) (by omega)).trans h1, (hk _ (by omega) (by omega)).trans h2, fun i hi => ⟨(hk _ (by omega) (by omega)).trans (h3 i hi).1, (hk _ (by omega) (by omega)).trans (h3 i hi).2⟩⟩
/-- one boat and its strokes changed -/
theorem fl_at.boat {cI cB : ClassId} {ad : Nat → Nat} {E E1 : Nat → va_E} {fb n T : Nat} {B F : Nat → Nat → Int32} (h : fl_at cI cB ad E fb n T B F) {i : Nat} (hi : i < 6) {b f : Nat → Int32} (hb : E1 (fb + 2 + 2 * i) = bE ad (fb + 2 + 2 * i) b) (hf : E1 (fb + 2 + 2 * i + 1) = .inl (cI, 6, .inl f)) (hk : ∀ q, q ≠ fb + 2 + 2 * i ∧ q ≠ fb + 2 + 2 * i + 1 → E1 q = E q) : fl_at cI cB ad E1 fb n T (va_up B i b) (va_up F i f) := by
  obtain ⟨h1, h2, h3⟩ := h
  refine ⟨(hk _ (by omega)).trans h1, (hk _ (by omega)).trans h2, fun j hj => ?_⟩
  by_cases hji : j = i
  · subst hji
    rw [va_up_self, va_up_self]
    exact ⟨hb, hf⟩
  · rw [va_up_ne _ _ hji, va_up_ne _ _ hji]
    exact ⟨(hk _ (by omega)).trans (h3 j hj).1, (hk _ (by omega)).trans (h3 j hj).2⟩
theorem va_up_same {α : Type} (f : Nat → α) (k : Nat) : va_up f k (f k) = f := by
  funext i
  by_cases h : i = k
  · subst h; exact va_up_self _ _ _
  · exact va_up_ne _ _ h
theorem fl_at.boat1 {cI cB : ClassId} {ad : Nat → Nat} {E E1 : Nat → va_E} {fb n T : Nat} {B F : Nat → Nat → Int32} (h : fl_at cI cB ad E fb n T B F) {i : Nat} (hi : i < 6) {b : Nat → Int32} (hb : E1 (fb + 2 + 2 * i) = bE ad (fb + 2 + 2 * i) b) (hk : ∀ q, q ≠ fb + 2 + 2 * i → E1 q = E q) : fl_at cI cB ad E1 fb n T (va_up B i b) F := by
  have := h.boat hi hb (f := F i) ((hk _ (by omega)).trans (h.2.2 i hi).2) (fun q hq => hk q hq.1)
  rw [va_up_same] at this
  exact this
/-- the fleet's own numbers changed -/
theorem fl_at.top {cI cB : ClassId} {ad : Nat → Nat} {E E1 : Nat → va_E} {fb n T n1 T1 : Nat} {B F : Nat → Nat → Int32} (h : fl_at cI cB ad E fb n T B F) (h1 : E1 fb = .inr (1, [.ref (ad (fb + 1)), .int (nI n1), .int (nI T1)])) (hk : ∀ q, q ≠ fb → E1 q = E q) : fl_at cI cB ad E1 fb n1 T1 B F :=
  ⟨h1, (hk _ (by omega)).trans h.2.1, fun i hi => ⟨(hk _ (by omega)).trans (h.2.2 i hi).1, (hk _ (by omega)).trans (h.2.2 i hi).2⟩⟩
def p_cp {α : Type} (B B0 : Nat → α) (k : Nat) : Nat → α := fun i => if i < k then B i else B0 i
theorem p_cp_0 {α : Type} (B B0 : Nat → α) : p_cp B B0 0 = B0 := by funext i; simp [p_cp]
theorem p_cp_s {α : Type} (B B0 : Nat → α) (k : Nat) : va_up (p_cp B B0 k) k (B k) = p_cp B B0 (k + 1) := by
  funext i
  by_cases h : i = k
  · subst h; simp [va_up, p_cp]
  · rw [va_up_ne _ _ h]
    simp only [p_cp]
    by_cases h2 : i < k
    · rw [if_pos h2, if_pos (by omega)]
    · rw [if_neg h2, if_neg (by omega)]
/-- a boat newly launched, out of what its place held -/
def p_new (b : Nat → Int32) (lane st : Int32) : Nat → Int32 := va_up (va_up (va_up b 4 lane) 2 st) 1 1
