/-! ===== the class's object: 0; river 1 .. 4; the race's fleet from 10 on, the trial's from 30 on ===== -/
def x_at (cI cB : ClassId) (ad : Nat → Nat) (E : Nat → va_E) (w p g : Nat → Int32) (nw n T : Nat) (B F : Nat → Nat → Int32) : Prop :=
  E 0 = .inr (3, [.ref (ad 1), .ref (ad 10), .ref (ad 30)]) ∧ (E 1 = rE ad nw ∧ E 2 = .inl (cI, 5, .inl w) ∧ E 3 = .inl (cI, 6, .inl p) ∧ E 4 = .inl (cI, 6, .inl g)) ∧ fl_at cI cB ad E 10 n T B F ∧ ∃ (nt Tt : Nat) (Bt Ft : Nat → Nat → Int32), nt ≤ 6 ∧ fl_at cI cB ad E 30 nt Tt Bt Ft
theorem x_at.f10 {cI cB : ClassId} {ad : Nat → Nat} {E E1 : Nat → va_E} {w p g : Nat → Int32} {nw n T n1 T1 : Nat} {B F B1 F1 : Nat → Nat → Int32} (h : x_at cI cB ad E w p g nw n T B F) (hk : ∀ q : Nat, (q < 10 ∨ 10 + 14 ≤ q) → E1 q = E q) (hf : fl_at cI cB ad E1 10 n1 T1 B1 F1) : x_at cI cB ad E1 w p g nw n1 T1 B1 F1 := by
  obtain ⟨h0, ⟨h1, h2, h3, h4⟩, -, nt, Tt, Bt, Ft, hnt, h6⟩ := h
  exact ⟨(hk _ (by omega)).trans h0, ⟨(hk _ (by omega)).trans h1, (hk _ (by omega)).trans h2, (hk _ (by omega)).trans h3, (hk _ (by omega)).trans h4⟩, hf, nt, Tt, Bt, Ft, hnt, h6.kept (fun q a b => hk q (by omega))⟩
theorem x_at.f30 {cI cB : ClassId} {ad : Nat → Nat} {E E1 : Nat → va_E} {w p g : Nat → Int32} {nw n T nt Tt : Nat} {B F Bt Ft : Nat → Nat → Int32} (h : x_at cI cB ad E w p g nw n T B F) (hk : ∀ q : Nat, (q < 30 ∨ 30 + 14 ≤ q) → E1 q = E q) (hnt : nt ≤ 6) (hf : fl_at cI cB ad E1 30 nt Tt Bt Ft) : x_at cI cB ad E1 w p g nw n T B F := by
  obtain ⟨h0, ⟨h1, h2, h3, h4⟩, h5, -⟩ := h
  exact ⟨(hk _ (by omega)).trans h0, ⟨(hk _ (by omega)).trans h1, (hk _ (by omega)).trans h2, (hk _ (by omega)).trans h3, (hk _ (by omega)).trans h4⟩, h5.kept (fun q a b => hk q (by omega)), nt, Tt, Bt, Ft, hnt, hf⟩
theorem x_at.riv {cI cB : ClassId} {ad : Nat → Nat} {E E1 : Nat → va_E} {w p g w1 p1 g1 : Nat → Int32} {nw n T nw1 : Nat} {B F : Nat → Nat → Int32} (h : x_at cI cB ad E w p g nw n T B F) (hk : ∀ q : Nat, (q = 0 ∨ 5 ≤ q) → E1 q = E q) (h1 : E1 1 = rE ad nw1) (h2 : E1 2 = .inl (cI, 5, .inl w1)) (h3 : E1 3 = .inl (cI, 6, .inl p1)) (h4 : E1 4 = .inl (cI, 6, .inl g1)) : x_at cI cB ad E1 w1 p1 g1 nw1 n T B F := by
  obtain ⟨h0, -, h5, nt, Tt, Bt, Ft, hnt, h6⟩ := h
  exact ⟨(hk _ (by omega)).trans h0, ⟨h1, h2, h3, h4⟩, h5.kept (fun q a b => hk q (by omega)), nt, Tt, Bt, Ft, hnt, h6.kept (fun q a b => hk q (by omega))⟩
theorem ix_nat {x : Int32} {n : Nat} (h : 0 ≤ x ∧ x < nI n) (hn : n < 2 ^ 31) : ∃ i : Nat, i < n ∧ x = nI i := by
  obtain ⟨i, hi, rfl⟩ := nI_of (i_nlt.mpr h.1)
  exact ⟨i, (nI_ltI hi hn).mp h.2, rfl⟩
theorem le_nat {x : Int32} {n : Nat} (h0 : 0 ≤ x) (h : x ≤ nI n) (hn : n < 2 ^ 31) : ∃ i : Nat, i ≤ n ∧ x = nI i := by
  obtain ⟨i, hi, rfl⟩ := nI_of (i_nlt.mpr h0)
  exact ⟨i, (nI_leI hi hn).mp h, rfl⟩
/-- which exception: 0 none, else the number of the reference -/
def c_water (l x : Int32) : Int32 := if p_lane l then (if x < 0 ∨ 6 < x then 2 else 0) else 1
def c_weir (p : Nat → Int32) (nw : Nat) (x y : Int32) : Int32 := if x < 1 ∨ 200 ≤ x then 1 else if p_lane y then (if nI nw < 6 then (if p_has p x nw = 0 then 0 else 2) else 2) else 1
def c_launch (n : Nat) (l x : Int32) : Int32 := if p_lane l then (if x < 1 ∨ 8 < x then 1 else if nI n < 6 then 0 else 2) else 1
abbrev p_isb (n : Nat) (x : Int32) : Prop := 0 ≤ x ∧ x < nI n
abbrev p_pat (len : Nat) (d : Int32) : Prop := 0 ≤ d ∧ (∀ i, i < len → p_rem (p_shr d i) 10 ≤ 3) ∧ p_shr d len = 0
def c_paddle (n : Nat) (x len d : Int32) : Int32 := if p_isb n x then (if len < 1 ∨ 6 < len then 2 else if p_pat len.toNatClampNeg d then 0 else 2) else 1
def c_tar (n : Nat) (B : Nat → Nat → Int32) (x : Int32) : Int32 := if p_isb n x then (if B x.toNatClampNeg 8 = 0 then 0 else 2) else 1
def c_boat (n : Nat) (x v : Int32) : Int32 := if p_isb n x then (if 0 ≤ v ∧ v ≤ 8 then 0 else 1) else 1
def c_count (v : Int32) : Int32 := if 0 ≤ v ∧ v ≤ 6 then 0 else 1
def c_next (v : Int32) : Int32 := if 0 ≤ v ∧ v ≤ 200 then 0 else 1
def c_rank (n : Nat) (x : Int32) : Int32 := if p_isb n x then 0 else 1
def c_go (t : Int32) : Int32 := if 1 ≤ t ∧ t ≤ 200 then 0 else 1
def c_foresee (t v : Int32) : Int32 := if 1 ≤ t ∧ t ≤ 200 then (if 3 ≤ v ∧ v ≤ 6 then 0 else 2) else 1
def c_advise (n : Nat) (x t : Int32) : Int32 := if p_isb n x then (if 1 ≤ t ∧ t ≤ 60 then 0 else 2) else 1
/-- count's answers -/
def p_cnt (nw n T : Nat) (B : Nat → Nat → Int32) : Nat → Int32
  | 0 => nI T
  | 1 => nI n
  | 2 => nI nw
  | 3 => p_in B n
  | 4 => p_fsum B n
  | 5 => (p_lead B n).1
  | _ => (p_win B n).1
abbrev ok2 (c : Int32) (a b : String) (En : String) : Prop := (c = 1 ∧ En = a) ∨ (c = 2 ∧ En = b)
abbrev ok1 (c : Int32) (a : String) (En : String) : Prop := c = 1 ∧ En = a
/-- isPattern's loop: 1 while the digits below i are strokes -/
theorem pat_no {d : Int32} {len i : Nat} (hi : i < len) (h : 3 < p_rem (p_shr d i) 10) : ¬ p_pat len d := fun q => i_nle.mpr h (q.2.1 i hi)
/-- arrives: behind k ticks not in yet, and so on up to 400 -/
def p_arr (w p g : Nat → Int32) (nw T : Nat) (f b : Nat → Int32) : Nat → Nat → Int32
  | _, 0 => -1
  | j, k + 1 => if p_boat w p g nw T f b j 8 = 0 then p_arr w p g nw T f b (j + 1) k else nI j
/-- how far the boat comes in m ticks with a pattern of two strokes -/
def p_far (w p g : Nat → Int32) (nw T : Nat) (f b : Nat → Int32) (m : Nat) (d : Int32) : Int32 := p_boat w p g nw T (p_row f 2 d) (va_up b 1 (nI 2)) m 3
/-- advise: (best, farthest) behind the first i patterns, 4 * first + second -/
def p_adt (i : Nat) : Nat := (i / 4) * 10 + i % 4
def p_advi (w p g : Nat → Int32) (nw T : Nat) (f b : Nat → Int32) (m : Nat) : Nat → Int32 × Int32
  | 0 => (0, -1)
  | i + 1 => if (p_advi w p g nw T f b m i).2 < p_far w p g nw T f b m (nI (p_adt i)) then (nI (p_adt i), p_far w p g nw T f b m (nI (p_adt i))) else p_advi w p g nw T f b m i
theorem one_le {x : Int32} (h : 1 ≤ x) : 0 ≤ x := by
  rw [fa_le] at *
  have e1 : (1 : Int32).toInt = 1 := by decide
  have e0 : (0 : Int32).toInt = 0 := by decide
  omega
theorem three_le {x : Int32} (h : 3 ≤ x) : 0 ≤ x := by
  rw [fa_le] at *
  have e1 : (3 : Int32).toInt = 3 := by decide
  have e0 : (0 : Int32).toInt = 0 := by decide
  omega
/-- 'in' stays 0 or 1 -/
theorem p_adv_8 {w p g : Nat → Int32} {n : Nat} {b : Nat → Int32} {f : Int32} : p_adv w p g n b f 8 = b 8 := by
  unfold p_adv
  split
  · split <;> simp [p_halt, p_soak, va_up]
  · rfl
theorem p_tick_8 {w p g : Nat → Int32} {n : Nat} {t : Int32} {f b : Nat → Int32} (h : b 8 = 0 ∨ b 8 = 1) : p_tick w p g n t f b 8 = 0 ∨ p_tick w p g n t f b 8 = 1 := by
  unfold p_tick
  split
  · rename_i h0
    unfold p_tickK p_home
    split
    · right; simp [va_up]
    · left
      have e1 : ∀ c : Nat → Int32, p_wet t c 8 = c 8 := fun c => by unfold p_wet; split <;> simp [p_soak, va_up]
      have e2 : ∀ c : Nat → Int32, p_drift c 8 = c 8 := fun c => by unfold p_drift; split <;> simp [va_up]
      have e3 : ∀ (c : Nat → Int32) (k : Int32), p_turn c k 8 = c 8 := fun c k => by unfold p_turn; split <;> simp [va_up]
      rw [e1, p_adv_8, e2, e3]
      exact h0
  · exact h
theorem p_boat_8 {w p g : Nat → Int32} {n T : Nat} {f b : Nat → Int32} (h : b 8 = 0 ∨ b 8 = 1) : ∀ j, p_boat w p g n T f b j 8 = 0 ∨ p_boat w p g n T f b j 8 = 1
  | 0 => h
  | j + 1 => p_tick_8 (p_boat_8 h j)
theorem p_run_8 {w p g : Nat → Int32} {nw T n : Nat} {F B : Nat → Nat → Int32} {j : Nat} (h : ∀ i, i < n → B i 8 = 0 ∨ B i 8 = 1) : ∀ i, i < n → p_run w p g nw T n F B j i 8 = 0 ∨ p_run w p g nw T n F B j i 8 = 1 := fun i hi => by
  simp only [p_run, if_pos hi]
  exact p_boat_8 (h i hi) j
theorem p_in_congr {B C : Nat → Nat → Int32} : ∀ {n : Nat}, (∀ i, i < n → B i = C i) → p_in B n = p_in C n
  | 0, _ => rfl
  | n + 1, h => by rw [p_in, p_in, p_in_congr (fun i hi => h i (by omega)), h n (by omega)]
theorem p_fsum_congr {B C : Nat → Nat → Int32} : ∀ {n : Nat}, (∀ i, i < n → B i = C i) → p_fsum B n = p_fsum C n
  | 0, _ => rfl
  | n + 1, h => by rw [p_fsum, p_fsum, p_fsum_congr (fun i hi => h i (by omega)), h n (by omega)]
theorem p_lead_congr {B C : Nat → Nat → Int32} : ∀ {n : Nat}, (∀ i, i < n → B i = C i) → p_lead B n = p_lead C n
  | 0, _ => rfl
  | n + 1, h => by rw [p_lead, p_lead, p_lead_congr (fun i hi => h i (by omega)), h n (by omega)]
theorem p_win_congr {B C : Nat → Nat → Int32} : ∀ {n : Nat}, (∀ i, i < n → B i = C i) → p_win B n = p_win C n
  | 0, _ => rfl
  | n + 1, h => by rw [p_win, p_win, p_win_congr (fun i hi => h i (by omega)), h n (by omega)]
theorem p_cnt_congr {nw n T : Nat} {B C : Nat → Nat → Int32} (h : ∀ i, i < n → B i = C i) (v : Nat) : p_cnt nw n T B v = p_cnt nw n T C v := by
  unfold p_cnt
  split
  · rfl
  · rfl
  · rfl
  · exact p_in_congr h
  · exact p_fsum_congr h
  · rw [p_lead_congr h]
  · rw [p_win_congr h]
/-- the copy's own places beyond n don't tell -/
theorem p_run_cp {w p g : Nat → Int32} {nw T n u v : Nat} {F B F0 B0 : Nat → Nat → Int32} : p_cnt nw n (T + u) (p_run w p g nw T n (p_cp F F0 n) (p_cp B B0 n) u) v = p_cnt nw n (T + u) (p_run w p g nw T n F B u) v :=
  p_cnt_congr (fun i hi => by simp only [p_run, if_pos hi, p_cp]) v
theorem p_adt_of (a b : Nat) (hb : b < 4) : p_adt (4 * a + b) = a * 10 + b := by
  unfold p_adt
  omega
/-- the checksum's step -/
def p_dg (d : Int64) (x : Int32) : Int64 := d * 31 + x.toInt64
def p_dgF (b : Nat → Int32) (d : Int64) : Nat → Int64
  | 0 => d
  | i + 1 => p_dg (p_dgF b d i) (p_fact b i)
def p_dgS (f : Nat → Int32) (d : Int64) : Nat → Int64
  | 0 => d
  | i + 1 => p_dg (p_dgS f d i) (f i)
def p_dgB (n : Nat) (B : Nat → Nat → Int32) (f o : Nat → Int32) (len : Nat) (d : Int64) : Int64 := p_dg (p_dgS f (p_dgF o d 9) len) (1 + p_rk B o n)
def p_dgC (nw n T : Nat) (B : Nat → Nat → Int32) : Nat → Int64
  | 0 => 1163
  | i + 1 => p_dg (p_dgC nw n T B i) (p_cnt nw n T B i)
def p_dgR (p g : Nat → Int32) (d : Int64) : Nat → Int64
  | 0 => d
  | i + 1 => p_dg (p_dg (p_dgR p g d i) (p i)) (g i)
def p_dgA (n : Nat) (B F : Nat → Nat → Int32) (Ln : Nat → Nat) (d : Int64) : Nat → Int64
  | 0 => d
  | i + 1 => p_dgB n B (F i) (B i) (Ln i) (p_dgA n B F Ln d i)
def p_dig (w p g : Nat → Int32) (nw n T : Nat) (B F : Nat → Nat → Int32) (Ln : Nat → Nat) : Int64 := p_dgA n B F Ln (p_dgR p g (p_dgS w (p_dgC nw n T B 7) 5) nw) n
def p_mean (n : Nat) (B : Nat → Nat → Int32) : UInt64 := if nI n < 1 then FP.dconst0 else FP.ddiv (FP.i2d (p_psum B n)) (FP.i2d (nI n))
