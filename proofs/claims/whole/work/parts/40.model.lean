/-! ===== the reference as a whole ===== -/
def mm (cI : ClassId) (ad : Nat → Nat) (E : Nat → va_E) (th : Int32) (w p g : Nat → Int32) (nw n T : Nat) (str : Nat → Int32) (S : Nat → Nat → Int32) : Prop := m_at cI ad E th w p g nw n str ∧ st_at cI ad E 60 T S ∧ ∃ (Ta : Nat) (Sa : Nat → Nat → Int32), Ta < 2 ^ 31 ∧ st_at cI ad E 80 Ta Sa
theorem m_at.top {cI : ClassId} {ad : Nat → Nat} {E E1 : Nat → va_E} {th th1 : Int32} {w p g : Nat → Int32} {nw n nw1 n1 : Nat} {str : Nat → Int32} (h : m_at cI ad E th w p g nw n str) (h1 : E1 50 = mE ad th1 nw1 n1) (hk : ∀ q, q ≠ 50 → E1 q = E q) : m_at cI ad E1 th1 w p g nw1 n1 str :=
  ⟨h1, (hk _ (by decide)).trans h.2.1, (hk _ (by decide)).trans h.2.2.1, (hk _ (by decide)).trans h.2.2.2.1, (hk _ (by decide)).trans h.2.2.2.2⟩
theorem m_at.wat {cI : ClassId} {ad : Nat → Nat} {E E1 : Nat → va_E} {th : Int32} {w p g w1 : Nat → Int32} {nw n : Nat} {str : Nat → Int32} (h : m_at cI ad E th w p g nw n str) (h1 : E1 51 = .inl (cI, 5, .inl w1)) (hk : ∀ q, q ≠ 51 → E1 q = E q) : m_at cI ad E1 th w1 p g nw n str :=
  ⟨(hk _ (by decide)).trans h.1, h1, (hk _ (by decide)).trans h.2.2.1, (hk _ (by decide)).trans h.2.2.2.1, (hk _ (by decide)).trans h.2.2.2.2⟩
theorem m_at.pla {cI : ClassId} {ad : Nat → Nat} {E E1 : Nat → va_E} {th : Int32} {w p g p1 : Nat → Int32} {nw n : Nat} {str : Nat → Int32} (h : m_at cI ad E th w p g nw n str) (h1 : E1 52 = .inl (cI, 6, .inl p1)) (hk : ∀ q, q ≠ 52 → E1 q = E q) : m_at cI ad E1 th w p1 g nw n str :=
  ⟨(hk _ (by decide)).trans h.1, (hk _ (by decide)).trans h.2.1, h1, (hk _ (by decide)).trans h.2.2.2.1, (hk _ (by decide)).trans h.2.2.2.2⟩
theorem m_at.gap {cI : ClassId} {ad : Nat → Nat} {E E1 : Nat → va_E} {th : Int32} {w p g g1 : Nat → Int32} {nw n : Nat} {str : Nat → Int32} (h : m_at cI ad E th w p g nw n str) (h1 : E1 53 = .inl (cI, 6, .inl g1)) (hk : ∀ q, q ≠ 53 → E1 q = E q) : m_at cI ad E1 th w p g1 nw n str :=
  ⟨(hk _ (by decide)).trans h.1, (hk _ (by decide)).trans h.2.1, (hk _ (by decide)).trans h.2.2.1, h1, (hk _ (by decide)).trans h.2.2.2.2⟩
theorem m_at.str {cI : ClassId} {ad : Nat → Nat} {E E1 : Nat → va_E} {th : Int32} {w p g : Nat → Int32} {nw n : Nat} {str str1 : Nat → Int32} (h : m_at cI ad E th w p g nw n str) (h1 : E1 54 = .inl (cI, 6, .inl str1)) (hk : ∀ q, q ≠ 54 → E1 q = E q) : m_at cI ad E1 th w p g nw n str1 :=
  ⟨(hk _ (by decide)).trans h.1, (hk _ (by decide)).trans h.2.1, (hk _ (by decide)).trans h.2.2.1, (hk _ (by decide)).trans h.2.2.2.1, h1⟩
theorem le_pred {x : Int32} {n : Nat} (hn : n ≤ 6) : x ≤ nI n - 1 ↔ x < nI n := by
  rw [fa_le, fa_lt]
  have e : ∀ m, m < 7 → (nI m - 1).toInt = (m : Int) - 1 ∧ (nI m).toInt = (m : Int) := by decide +kernel
  obtain ⟨e1, e2⟩ := e n (by omega)
  omega
def cm_water (l x : Int32) : Int32 := if 0 ≤ l ∧ l ≤ 4 then (if 0 ≤ x ∧ x ≤ 6 then 0 else 2) else 1
def m_free (p : Nat → Int32) (x : Int32) (nw : Nat) : Nat → Int32
  | 0 => if nI nw < 6 then 1 else 0
  | k + 1 => m_free p x nw k &&& (if p k = x then 0 else 1)
def cm_weir (p : Nat → Int32) (nw : Nat) (x y : Int32) : Int32 := if (1 ≤ x ∧ x ≤ 199) ∧ 0 ≤ y ∧ y ≤ 4 then (if m_free p x nw nw = 0 then 2 else 0) else 1
def cm_launch (n : Nat) (l x : Int32) : Int32 := if (0 ≤ l ∧ l ≤ 4) ∧ 1 ≤ x ∧ x ≤ 8 then (if nI n = 6 then 2 else 0) else 1
def cm_paddle (n : Nat) (x len d : Int32) : Int32 := if p_isb n x then (if (1 ≤ len ∧ len ≤ 6) ∧ p_pat len.toNatClampNeg d then 0 else 2) else 1
def cm_tar (n : Nat) (S : Nat → Nat → Int32) (x : Int32) : Int32 := if p_isb n x then (if S 5 x.toNatClampNeg = -1 then 0 else 2) else 1
theorem lane4_ix {x : Int32} (h : 0 ≤ x ∧ x ≤ 4) : vp_in x 5 := by
  obtain ⟨h1, h2⟩ := h
  rw [fa_le] at h1 h2
  have e0 : (0 : Int32).toInt = 0 := by decide
  have e5 : (4 : Int32).toInt = 4 := by decide
  exact vp_in_iff.mpr ⟨by omega, by omega⟩
theorem m_free_lt {p : Nat → Int32} {x : Int32} {nw : Nat} (h6 : nw ≤ 6) : ∀ {k : Nat}, ¬ m_free p x nw k = 0 → nw < 6
  | 0, h => by
    rw [m_free] at h
    by_cases q : nI nw < 6
    · exact (nI_ltI (by omega) (by omega) (b := 6)).mp q
    · rw [if_neg q] at h; exact absurd rfl h
  | k + 1, h => by
    rw [m_free] at h
    refine m_free_lt h6 (p := p) (x := x) (k := k) (fun q => h ?_)
    rw [q]
    split <;> decide
theorem n_six {n : Nat} (h : n ≤ 6) (h1 : ¬ nI n = 6) : n < 6 := by
  rcases Nat.lt_or_ge n 6 with q | q
  · exact q
  · have : n = 6 := by omega
    subst this
    exact absurd rfl h1
def m_lau (S : Nat → Nat → Int32) (n : Nat) (x : Int32) : Nat → Nat → Int32 := va_up (va_up (va_up (va_up S 1 (upd (S 1) n x)) 5 (upd (S 5) n (-1))) 8 (upd (S 8) n 1)) 9 (upd (S 9) n 3)
def m_pad (S : Nat → Nat → Int32) (u : Nat) (len d : Int32) : Nat → Nat → Int32 := va_up (va_up S 8 (upd (S 8) u len)) 9 (upd (S 9) u d)
def m_tar (S : Nat → Nat → Int32) (u : Nat) : Nat → Nat → Int32 := va_up (va_up S 3 (upd (S 3) u 0)) 4 (upd (S 4) u (S 4 u + 4))
theorem m_free_01 (p : Nat → Int32) (x : Int32) (nw : Nat) : ∀ k, m_free p x nw k = 0 ∨ m_free p x nw k = 1
  | 0 => by
    rw [m_free]
    split
    · exact Or.inr rfl
    · exact Or.inl rfl
  | k + 1 => by
    rw [m_free]
    rcases m_free_01 p x nw k with h | h <;> rw [h] <;> split <;> decide
set_option maxHeartbeats 4000000 in
set_option maxRecDepth 100000 in
theorem m_X5_isFrom (l : Launch) {D : va_G} {cI cJ cB : ClassId} {t0 z : Nat} {tx ad : Nat → Nat} {L : List Nat} {E : Nat → va_E} (v lo hi : Int32) : Met l yX5_isFrom wsX5_isFrom ({ frames := 0, cells := 0, slots := 0, locals := 0 } : Room) (va_Pc [.int v, .int lo, .int hi] (fPre D cI cJ cB t0 z tx ad L E)) (va_Qi (fun (r : Int32) (E1 : Nat → va_E) => r = (if lo ≤ v ∧ v ≤ hi then 1 else 0) ∧ E1 = E) (fB D z ad L) (fA z)) 0 0 (fA z) := by
  refine f_ofW (cc := cX5_isFrom) (maxL := 3) (ret := some .boolean) (by decide) rfl (Nat.le_of_ble_eq_true rfl) ?_
  intro pr e s m args below meth c Q hx hb hr hml hts hown hlocks hin hG H locs hI hQ ls hl
  have hl : lv_has ls 3 [(0, .int v), (1, .int lo), (2, .int hi)] := hl
  refine lv_iload_n hx hb dX5_isFrom_0 rfl (lv_at hl 0 rfl) ?_
  refine lv_iload_n hx hb dX5_isFrom_1 rfl (lv_at hl 1 rfl) ?_
  refine lv_icmp_lt (tgt := 14) hx hb dX5_isFrom_2 (by decide) (fun c_2 => ?_) (fun c_2 => ?_)
  · have n_2 := i_nle.mpr c_2
    refine lv_iconst (v := 0) hx hb dX5_isFrom_14 (by decide) ?_
    exact f_retz hQ hx hb hr hlocks hI.2.2 (by omega) (by omega) dX5_isFrom_15 rfl E (fB_of hI) (⟨by simp [c_2, n_2], rfl⟩)
  · have n_2 := c_2
    have c_2 := i_nlt.mp n_2
    refine lv_iload_n hx hb dX5_isFrom_5 rfl (lv_at hl 0 rfl) ?_
    refine lv_iload_n hx hb dX5_isFrom_6 rfl (lv_at hl 2 rfl) ?_
    refine lv_icmp_gt (tgt := 14) hx hb dX5_isFrom_7 (by decide) (fun c_7 => ?_) (fun c_7 => ?_)
    · have n_7 := i_nle.mpr c_7
      refine lv_iconst (v := 0) hx hb dX5_isFrom_14 (by decide) ?_
      exact f_retz hQ hx hb hr hlocks hI.2.2 (by omega) (by omega) dX5_isFrom_15 rfl E (fB_of hI) (⟨by simp [c_2, n_2, c_7, n_7], rfl⟩)
    · have n_7 := c_7
      have c_7 := i_nlt.mp n_7
      refine lv_iconst (v := 1) hx hb dX5_isFrom_10 (by decide) ?_
      refine lv_goto (tgt := 15) hx hb dX5_isFrom_11 (by decide) ?_
      exact f_retz hQ hx hb hr hlocks hI.2.2 (by omega) (by omega) dX5_isFrom_15 rfl E (fB_of hI) (⟨by simp [c_2, n_2, c_7, n_7], rfl⟩)

set_option maxHeartbeats 4000000 in
set_option maxRecDepth 100000 in
theorem m_X5_thrown (l : Launch) {D : va_G} {cI cJ cB : ClassId} {t0 z : Nat} {tx ad : Nat → Nat} {L : List Nat} {E : Nat → va_E} {th : Int32} {w p g : Nat → Int32} {nw n T : Nat} {str : Nat → Int32} {S : Nat → Nat → Int32} (hMS : mm cI ad E th w p g nw n T str S) (hMm : ∀ k, (50 ≤ k ∧ k < 55) ∨ (60 ≤ k ∧ k < 71) ∨ (80 ≤ k ∧ k < 91) → k ∈ L) (hNW : nw ≤ 6) (hN6 : n ≤ 6) (hTb : T < 2 ^ 30) (hrv : okr w p nw) (hok : ∀ q, q < n → okb (mb S str q)) (h99 : 99 ∉ L) : Met l yX5_thrown wsX5_thrown ({ frames := 0, cells := 0, slots := 0, locals := 0 } : Room) (va_Pc [.ref (ad 50)] (fPre D cI cJ cB t0 z tx ad L E)) (va_Qi (fun (r : Int32) (E1 : Nat → va_E) => r = th ∧ E1 = E) (fB D z ad L) (fA z)) 0 0 (fA z) := by
  refine f_ofW (cc := cX5_thrown) (maxL := 1) (ret := some .int) (by decide) rfl (Nat.le_of_ble_eq_true rfl) ?_
  intro pr e s m args below meth c Q hx hb hr hml hts hown hlocks hin hG H locs hI hQ ls hl
  have hl : lv_has ls 1 [(0, .ref (ad 50))] := hl
  obtain ⟨hM, hS, Ta, Sa, hTa, hA⟩ := id hMS
  refine lv_aload_n hx hb dX5_thrown_0 rfl (lv_at hl 0 rfl) ?_
  refine f_get (ci := 5) (v := .int th) (C := RX5) (T := TX5) (N := 9) hx hb hts (by decide +kernel) hown hG.1 hI rfl (hMm _ (by omega)) (hM.1) rfl 0 (by decide) (hts (.fieldLink RX5 34 "CoracleRaceModel" "thrown" "I") (by decide +kernel)) rfl dX5_thrown_1 ?_
  exact f_reti hQ hx hb hr hlocks hI.2.2 (by omega) (by omega) dX5_thrown_4 E (fB_of hI) (⟨rfl, rfl⟩)

set_option maxHeartbeats 4000000 in
set_option maxRecDepth 100000 in
theorem m_X5_no (l : Launch) {D : va_G} {cI cJ cB : ClassId} {t0 z : Nat} {tx ad : Nat → Nat} {L : List Nat} {E : Nat → va_E} {th : Int32} {w p g : Nat → Int32} {nw n : Nat} {str : Nat → Int32} (h50 : 50 ∈ L) (hM : m_at cI ad E th w p g nw n str) (k : Int32) : Met l yX5_no wsX5_no ({ frames := 0, cells := 0, slots := 0, locals := 0 } : Room) (va_Pc [.ref (ad 50), .int k] (fPre D cI cJ cB t0 z tx ad L E)) (va_Qi (fun (r : Int32) (E1 : Nat → va_E) => r = 0 ∧ m_at cI ad E1 k w p g nw n str ∧ ∀ q, q ≠ 50 → E1 q = E q) (fB D z ad L) (fA z)) 0 0 (fA z) := by
  refine f_ofW (cc := cX5_no) (maxL := 2) (ret := some .int) (by decide) rfl (Nat.le_of_ble_eq_true rfl) ?_
  intro pr e s m args below meth c Q hx hb hr hml hts hown hlocks hin hG H locs hI hQ ls hl
  have hl : lv_has ls 2 [(0, .ref (ad 50)), (1, .int k)] := hl
  refine lv_aload_n hx hb dX5_no_0 rfl (lv_at hl 0 rfl) ?_
  refine lv_iload_n hx hb dX5_no_1 rfl (lv_at hl 1 rfl) ?_
  refine f_put (ci := 5) (v := .int k) (C := RX5) (T := TX5) (N := 9) hx hb hts (by decide +kernel) tyX5 tyX5_ok nmX5 hown hG.1 hI rfl h50 (hM.1) rfl 0 (by decide) (hts (.fieldLink RX5 34 "CoracleRaceModel" "thrown" "I") (by decide +kernel)) rfl rfl rfl (Nat.le_of_ble_eq_true rfl) dX5_no_2 (fun E1 H locs hE2 hn3 hI => ?_)
  have hM := hM.top (th1 := k) (nw1 := nw) (n1 := n) hE2 (fun q hq => hn3 q hq)
  have hfr := hn3
  refine lv_iconst (v := 0) hx hb dX5_no_5 (by decide) ?_
  exact f_reti hQ hx hb hr hlocks hI.2.2 (by omega) (by omega) dX5_no_6 E1 (fB_of hI) (⟨rfl, hM, hfr⟩)

set_option maxHeartbeats 4000000 in
set_option maxRecDepth 100000 in
theorem m_X5_isBoat (l : Launch) {D : va_G} {cI cJ cB : ClassId} {t0 z : Nat} {tx ad : Nat → Nat} {L : List Nat} {E : Nat → va_E} {th : Int32} {w p g : Nat → Int32} {nw n : Nat} {str : Nat → Int32} (h50 : 50 ∈ L) (hM : m_at cI ad E th w p g nw n str) (hN6 : n ≤ 6) (x : Int32) : Met l yX5_isBoat wsX5_isBoat ({ frames := 1, cells := 0, slots := 0, locals := 22 } : Room) (va_Pc [.ref (ad 50), .int x] (fPre D cI cJ cB t0 z tx ad L E)) (va_Qi (fun (r : Int32) (E1 : Nat → va_E) => r = (if p_isb n x then 1 else 0) ∧ E1 = E) (fB D z ad L) (fA z)) 0 0 (fA z) := by
  refine f_ofW (cc := cX5_isBoat) (maxL := 2) (ret := some .boolean) (by decide) rfl (Nat.le_of_ble_eq_true rfl) ?_
  intro pr e s m args below meth c Q hx hb hr hml hts hown hlocks hin hG H locs hI hQ ls hl
  have hl : lv_has ls 2 [(0, .ref (ad 50)), (1, .int x)] := hl
  refine lv_iload_n hx hb dX5_isBoat_0 rfl (lv_at hl 1 rfl) ?_
  refine lv_iconst (v := 0) hx hb dX5_isBoat_1 (by decide) ?_
  refine lv_aload_n hx hb dX5_isBoat_2 rfl (lv_at hl 0 rfl) ?_
  refine f_get (ci := 5) (v := .int (nI n)) (C := RX5) (T := TX5) (N := 9) hx hb hts (by decide +kernel) hown hG.1 hI rfl h50 (hM.1) rfl 5 (by decide) (hts (.fieldLink RX5 38 "CoracleRaceModel" "boats" "I") (by decide +kernel)) rfl dX5_isBoat_3 ?_
  refine lv_iconst (v := 1) hx hb dX5_isBoat_6 (by decide) ?_
  refine lv_isub hx hb dX5_isBoat_7 ?_
  refine f_calli1 (va_runS (As := [.int x, .int 0, .int ((nI n) - 1)]) (rest := []) ⟨hx, hb, hml, hown, hts⟩ (m_X5_isFrom l x 0 ((nI n) - 1)) (va_cwS 3 hts gX5_isBoat_X5_isFrom rfl rfl rfl (by decide +kernel) ⟨Nat.le_of_ble_eq_true rfl, Nat.le_of_ble_eq_true rfl⟩) (fPre_of hG hI) rfl rfl hl.1 rfl (lv_room (Nat.le_of_ble_eq_true rfl)) dX5_isBoat_8 ⟨Nat.le_of_ble_eq_true rfl, Nat.le_of_ble_eq_true rfl⟩) hI (fun r1 E2 H locs hp hI => ?_)
  obtain ⟨he, hq⟩ := hp
  rw [hq] at hI
  exact f_retz hQ hx hb hr hlocks hI.2.2 (by omega) (by omega) dX5_isBoat_11 (bn_of (by rw [he]; split; exact Or.inr rfl; exact Or.inl rfl)) E (fB_of hI) (⟨by rw [he]; simp only [le_pred hN6], rfl⟩)

set_option maxHeartbeats 4000000 in
set_option maxRecDepth 100000 in
theorem m_X5_setWater (l : Launch) {D : va_G} {cI cJ cB : ClassId} {t0 z : Nat} {tx ad : Nat → Nat} {L : List Nat} {E : Nat → va_E} {th : Int32} {w p g : Nat → Int32} {nw n T : Nat} {str : Nat → Int32} {S : Nat → Nat → Int32} (hMS : mm cI ad E th w p g nw n T str S) (hMm : ∀ k, (50 ≤ k ∧ k < 55) ∨ (60 ≤ k ∧ k < 71) ∨ (80 ≤ k ∧ k < 91) → k ∈ L) (hNW : nw ≤ 6) (hN6 : n ≤ 6) (hTb : T < 2 ^ 30) (hrv : okr w p nw) (hok : ∀ q, q < n → okb (mb S str q)) (h99 : 99 ∉ L) (x y : Int32) : Met l yX5_setWater wsX5_setWater ({ frames := 1, cells := 0, slots := 0, locals := 22 } : Room) (va_Pc [.ref (ad 50), .int x, .int y] (fPre D cI cJ cB t0 z tx ad L E)) (va_Qi (fun (r : Int32) (E1 : Nat → va_E) => (cm_water x y = 0 ∧ r = w x.toNatClampNeg ∧ mm cI ad E1 0 (upd w x.toNatClampNeg y) p g nw n T str S ∧ ∀ q : Nat, (q < 50 ∨ 91 ≤ q) → E1 q = E q) ∨ (¬ cm_water x y = 0 ∧ r = 0 ∧ mm cI ad E1 (cm_water x y) w p g nw n T str S ∧ ∀ q : Nat, (q < 50 ∨ 91 ≤ q) → E1 q = E q)) (fB D z ad L) (fA z)) 0 0 (fA z) := by
  refine f_ofW (cc := cX5_setWater) (maxL := 4) (ret := some .int) (by decide) rfl (Nat.le_of_ble_eq_true rfl) ?_
  intro pr e s m args below meth c Q hx hb hr hml hts hown hlocks hin hG H locs hI hQ ls hl
  have hl : lv_has ls 4 [(0, .ref (ad 50)), (1, .int x), (2, .int y)] := hl
  have hfr : ∀ q : Nat, (q < 50 ∨ 91 ≤ q) → E q = E q := fun _ _ => rfl
  obtain ⟨hM, hS, Ta, Sa, hTa, hA⟩ := id hMS
  refine lv_aload_n hx hb dX5_setWater_0 rfl (lv_at hl 0 rfl) ?_
  refine lv_iconst (v := 0) hx hb dX5_setWater_1 (by decide) ?_
  refine f_put (ci := 5) (v := .int 0) (C := RX5) (T := TX5) (N := 9) hx hb hts (by decide +kernel) tyX5 tyX5_ok nmX5 hown hG.1 hI rfl (hMm _ (by omega)) (hM.1) rfl 0 (by decide) (hts (.fieldLink RX5 34 "CoracleRaceModel" "thrown" "I") (by decide +kernel)) rfl rfl rfl (Nat.le_of_ble_eq_true rfl) dX5_setWater_2 (fun E1 H locs hE2 hn3 hI => ?_)
  have hM := hM.top (th1 := 0) (nw1 := nw) (n1 := n) hE2 (fun q hq => hn3 q hq)
  have hS := hS.kept (fun q h1 h2 => hn3 q (by omega))
  have hA := hA.kept (fun q h1 h2 => hn3 q (by omega))
  have hfr : ∀ q : Nat, (q < 50 ∨ 91 ≤ q) → E1 q = E q := fun q hq => (hn3 q (by omega)).trans (hfr q hq)
  refine lv_iload_n hx hb dX5_setWater_5 rfl (lv_at hl 1 rfl) ?_
  refine lv_iconst (v := 0) hx hb dX5_setWater_6 (by decide) ?_
  refine lv_iconst (v := 4) hx hb dX5_setWater_7 (by decide) ?_
  refine f_calli1 (va_runS (As := [.int x, .int 0, .int 4]) (rest := []) ⟨hx, hb, hml, hown, hts⟩ (m_X5_isFrom l x 0 4) (va_cwS 3 hts gX5_setWater_X5_isFrom rfl rfl rfl (by decide +kernel) ⟨Nat.le_of_ble_eq_true rfl, Nat.le_of_ble_eq_true rfl⟩) (fPre_of hG hI) rfl rfl hl.1 rfl (lv_room (Nat.le_of_ble_eq_true rfl)) dX5_setWater_8 ⟨Nat.le_of_ble_eq_true rfl, Nat.le_of_ble_eq_true rfl⟩) hI (fun r4 E5 H locs hp hI => ?_)
  obtain ⟨he, hq⟩ := hp
  rw [hq] at hI
  refine lv_if_ne (tgt := 20) hx hb dX5_setWater_11 (by decide) (fun c_11 => ?_) (fun c_11 => ?_)
  · have p_11 := bl_t he c_11
    refine lv_iload_n hx hb dX5_setWater_20 rfl (lv_at hl 2 rfl) ?_
    refine lv_iconst (v := 0) hx hb dX5_setWater_21 (by decide) ?_
    refine lv_bipush (v := 6) hx hb dX5_setWater_22 (by decide) ?_
    refine f_calli1 (va_runS (As := [.int y, .int 0, .int 6]) (rest := []) ⟨hx, hb, hml, hown, hts⟩ (m_X5_isFrom l y 0 6) (va_cwS 3 hts gX5_setWater_X5_isFrom rfl rfl rfl (by decide +kernel) ⟨Nat.le_of_ble_eq_true rfl, Nat.le_of_ble_eq_true rfl⟩) (fPre_of hG hI) rfl rfl hl.1 rfl (lv_room (Nat.le_of_ble_eq_true rfl)) dX5_setWater_24 ⟨Nat.le_of_ble_eq_true rfl, Nat.le_of_ble_eq_true rfl⟩) hI (fun r6 E7 H locs hp hI => ?_)
    obtain ⟨he, hq⟩ := hp
    rw [hq] at hI
    refine lv_if_ne (tgt := 36) hx hb dX5_setWater_27 (by decide) (fun c_27 => ?_) (fun c_27 => ?_)
    · have p_27 := bl_t he c_27
      refine lv_aload_n hx hb dX5_setWater_36 rfl (lv_at hl 0 rfl) ?_
      refine f_get (ci := 5) (v := .ref (ad 51)) (C := RX5) (T := TX5) (N := 9) hx hb hts (by decide +kernel) hown hG.1 hI rfl (hMm _ (by omega)) (hM.1) rfl 1 (by decide) (hts (.fieldLink RX5 7 "CoracleRaceModel" "water" "[I") (by decide +kernel)) rfl dX5_setWater_37 ?_
      refine lv_iload_n hx hb dX5_setWater_40 rfl (lv_at hl 1 rfl) ?_
      refine f_iald hx hb hG.1 hI rfl (hMm _ (by omega)) (hM.2.1) (lane4_ix p_11) dX5_setWater_41 ?_
      refine lv_istore_n (lv' := [(3, .int (w (x).toNatClampNeg)), (0, .ref (ad 50)), (1, .int x), (2, .int y)]) hx hb dX5_setWater_42 rfl hl (by decide) rfl (fun ls hl => ?_)
      refine lv_aload_n hx hb dX5_setWater_43 rfl (lv_at hl 1 rfl) ?_
      refine f_get (ci := 5) (v := .ref (ad 51)) (C := RX5) (T := TX5) (N := 9) hx hb hts (by decide +kernel) hown hG.1 hI rfl (hMm _ (by omega)) (hM.1) rfl 1 (by decide) (hts (.fieldLink RX5 7 "CoracleRaceModel" "water" "[I") (by decide +kernel)) rfl dX5_setWater_44 ?_
      refine lv_iload_n hx hb dX5_setWater_47 rfl (lv_at hl 2 rfl) ?_
      refine lv_iload_n hx hb dX5_setWater_48 rfl (lv_at hl 3 rfl) ?_
      refine f_iast hx hb hG.1 hI rfl (hMm _ (by omega)) (hM.2.1) (lane4_ix p_11) dX5_setWater_49 (fun E8 H locs hE9 hn10 hI => ?_)
      have hM := hM.wat hE9 (fun q hq => hn10 q hq)
      have hS := hS.kept (fun q h1 h2 => hn10 q (by omega))
      have hA := hA.kept (fun q h1 h2 => hn10 q (by omega))
      have hfr : ∀ q : Nat, (q < 50 ∨ 91 ≤ q) → E8 q = E q := fun q hq => (hn10 q (by omega)).trans (hfr q hq)
      refine lv_iload_n hx hb dX5_setWater_50 rfl (lv_at hl 0 rfl) ?_
      have hc : cm_water x y = 0 := (by simp [cm_water, c_11, if_pos p_11, p_11, c_27, if_pos p_27, p_27])
      exact f_reti hQ hx hb hr hlocks hI.2.2 (by omega) (by omega) dX5_setWater_51 E8 (fB_of hI) (Or.inl ⟨hc, rfl, ⟨hM, hS, _, _, hTa, hA⟩, hfr⟩)
    · have p_27 := bl_f he c_27
      refine lv_aload_n hx hb dX5_setWater_30 rfl (lv_at hl 0 rfl) ?_
      refine lv_iconst (v := 2) hx hb dX5_setWater_31 (by decide) ?_
      refine f_calli1 (va_runV (As := [.int 2]) (rest := []) ⟨hx, hb, hml, hown, hts⟩ (m_X5_no l (hMm _ (by decide)) hM 2) (cwV 1 hts gX5_setWater_X5_no rfl rfl rfl (by decide +kernel) ⟨Nat.le_of_ble_eq_true rfl, Nat.le_of_ble_eq_true rfl⟩) (fPre_ofV hG hI rfl (hMm _ (by omega)) (hM.1) rfl rfl) rfl rfl hl.1 rfl (lv_room (Nat.le_of_ble_eq_true rfl)) dX5_setWater_32 ⟨Nat.le_of_ble_eq_true rfl, Nat.le_of_ble_eq_true rfl⟩) hI (fun r11 E12 H locs hp hI => ?_)
      obtain ⟨he, hM, hn9⟩ := hp
      subst he
      have hS := hS.kept (fun q h1 h2 => hn9 q (by omega))
      have hA := hA.kept (fun q h1 h2 => hn9 q (by omega))
      have hfr : ∀ q : Nat, (q < 50 ∨ 91 ≤ q) → E12 q = E q := fun q hq => (hn9 q (by omega)).trans (hfr q hq)
      have hc : cm_water x y = 2 := (by simp [cm_water, c_11, if_pos p_11, p_11, c_27, if_neg p_27])
      exact f_reti hQ hx hb hr hlocks hI.2.2 (by omega) (by omega) dX5_setWater_35 E12 (fB_of hI) (Or.inr ⟨by rw [hc]; decide, rfl, by rw [hc]; exact ⟨hM, hS, _, _, hTa, hA⟩, hfr⟩)
  · have p_11 := bl_f he c_11
    refine lv_aload_n hx hb dX5_setWater_14 rfl (lv_at hl 0 rfl) ?_
    refine lv_iconst (v := 1) hx hb dX5_setWater_15 (by decide) ?_
    refine f_calli1 (va_runV (As := [.int 1]) (rest := []) ⟨hx, hb, hml, hown, hts⟩ (m_X5_no l (hMm _ (by decide)) hM 1) (cwV 1 hts gX5_setWater_X5_no rfl rfl rfl (by decide +kernel) ⟨Nat.le_of_ble_eq_true rfl, Nat.le_of_ble_eq_true rfl⟩) (fPre_ofV hG hI rfl (hMm _ (by omega)) (hM.1) rfl rfl) rfl rfl hl.1 rfl (lv_room (Nat.le_of_ble_eq_true rfl)) dX5_setWater_16 ⟨Nat.le_of_ble_eq_true rfl, Nat.le_of_ble_eq_true rfl⟩) hI (fun r13 E14 H locs hp hI => ?_)
    obtain ⟨he, hM, hn9⟩ := hp
    subst he
    have hS := hS.kept (fun q h1 h2 => hn9 q (by omega))
    have hA := hA.kept (fun q h1 h2 => hn9 q (by omega))
    have hfr : ∀ q : Nat, (q < 50 ∨ 91 ≤ q) → E14 q = E q := fun q hq => (hn9 q (by omega)).trans (hfr q hq)
    have hc : cm_water x y = 1 := (by simp [cm_water, c_11, if_neg p_11])
    exact f_reti hQ hx hb hr hlocks hI.2.2 (by omega) (by omega) dX5_setWater_19 E14 (fB_of hI) (Or.inr ⟨by rw [hc]; decide, rfl, by rw [hc]; exact ⟨hM, hS, _, _, hTa, hA⟩, hfr⟩)

set_option maxHeartbeats 4000000 in
set_option maxRecDepth 100000 in
theorem m_X5_weir (l : Launch) {D : va_G} {cI cJ cB : ClassId} {t0 z : Nat} {tx ad : Nat → Nat} {L : List Nat} {E : Nat → va_E} {th : Int32} {w p g : Nat → Int32} {nw n T : Nat} {str : Nat → Int32} {S : Nat → Nat → Int32} (hMS : mm cI ad E th w p g nw n T str S) (hMm : ∀ k, (50 ≤ k ∧ k < 55) ∨ (60 ≤ k ∧ k < 71) ∨ (80 ≤ k ∧ k < 91) → k ∈ L) (hNW : nw ≤ 6) (hN6 : n ≤ 6) (hTb : T < 2 ^ 30) (hrv : okr w p nw) (hok : ∀ q, q < n → okb (mb S str q)) (h99 : 99 ∉ L) (x y : Int32) : Met l yX5_weir wsX5_weir ({ frames := 1, cells := 0, slots := 0, locals := 22 } : Room) (va_Pc [.ref (ad 50), .int x, .int y] (fPre D cI cJ cB t0 z tx ad L E)) (va_Qi (fun (r : Int32) (E1 : Nat → va_E) => (cm_weir p nw x y = 0 ∧ r = nI (nw + 1) ∧ mm cI ad E1 0 w (upd p nw x) (upd g nw y) (nw + 1) n T str S ∧ ∀ q : Nat, (q < 50 ∨ 91 ≤ q) → E1 q = E q) ∨ (¬ cm_weir p nw x y = 0 ∧ r = 0 ∧ mm cI ad E1 (cm_weir p nw x y) w p g nw n T str S ∧ ∀ q : Nat, (q < 50 ∨ 91 ≤ q) → E1 q = E q)) (fB D z ad L) (fA z)) 0 0 (fA z) := by
  refine f_ofW (cc := cX5_weir) (maxL := 5) (ret := some .int) (by decide) rfl (Nat.le_of_ble_eq_true rfl) ?_
  intro pr e s m args below meth c Q hx hb hr hml hts hown hlocks hin hG H locs hI hQ ls hl
  have hl : lv_has ls 5 [(0, .ref (ad 50)), (1, .int x), (2, .int y)] := hl
  have hfr : ∀ q : Nat, (q < 50 ∨ 91 ≤ q) → E q = E q := fun _ _ => rfl
  obtain ⟨hM, hS, Ta, Sa, hTa, hA⟩ := id hMS
  refine lv_aload_n hx hb dX5_weir_0 rfl (lv_at hl 0 rfl) ?_
  refine lv_iconst (v := 0) hx hb dX5_weir_1 (by decide) ?_
  refine f_put (ci := 5) (v := .int 0) (C := RX5) (T := TX5) (N := 9) hx hb hts (by decide +kernel) tyX5 tyX5_ok nmX5 hown hG.1 hI rfl (hMm _ (by omega)) (hM.1) rfl 0 (by decide) (hts (.fieldLink RX5 34 "CoracleRaceModel" "thrown" "I") (by decide +kernel)) rfl rfl rfl (Nat.le_of_ble_eq_true rfl) dX5_weir_2 (fun E1 H locs hE2 hn3 hI => ?_)
  have hM := hM.top (th1 := 0) (nw1 := nw) (n1 := n) hE2 (fun q hq => hn3 q hq)
  have hS := hS.kept (fun q h1 h2 => hn3 q (by omega))
  have hA := hA.kept (fun q h1 h2 => hn3 q (by omega))
  have hfr : ∀ q : Nat, (q < 50 ∨ 91 ≤ q) → E1 q = E q := fun q hq => (hn3 q (by omega)).trans (hfr q hq)
  refine lv_iload_n hx hb dX5_weir_5 rfl (lv_at hl 1 rfl) ?_
  refine lv_iconst (v := 1) hx hb dX5_weir_6 (by decide) ?_
  refine lv_sipush (v := 199) hx hb dX5_weir_7 (by decide) ?_
  refine f_calli1 (va_runS (As := [.int x, .int 1, .int 199]) (rest := []) ⟨hx, hb, hml, hown, hts⟩ (m_X5_isFrom l x 1 199) (va_cwS 3 hts gX5_weir_X5_isFrom rfl rfl rfl (by decide +kernel) ⟨Nat.le_of_ble_eq_true rfl, Nat.le_of_ble_eq_true rfl⟩) (fPre_of hG hI) rfl rfl hl.1 rfl (lv_room (Nat.le_of_ble_eq_true rfl)) dX5_weir_10 ⟨Nat.le_of_ble_eq_true rfl, Nat.le_of_ble_eq_true rfl⟩) hI (fun r4 E5 H locs hp hI => ?_)
  obtain ⟨he, hq⟩ := hp
  rw [hq] at hI
  refine lv_if_eq (tgt := 25) hx hb dX5_weir_13 (by decide) (fun c_13 => ?_) (fun c_13 => ?_)
  · have p_13 := bl_f he c_13
    refine lv_aload_n hx hb dX5_weir_25 rfl (lv_at hl 0 rfl) ?_
    refine lv_iconst (v := 1) hx hb dX5_weir_26 (by decide) ?_
    refine f_calli1 (va_runV (As := [.int 1]) (rest := []) ⟨hx, hb, hml, hown, hts⟩ (m_X5_no l (hMm _ (by decide)) hM 1) (cwV 1 hts gX5_weir_X5_no rfl rfl rfl (by decide +kernel) ⟨Nat.le_of_ble_eq_true rfl, Nat.le_of_ble_eq_true rfl⟩) (fPre_ofV hG hI rfl (hMm _ (by omega)) (hM.1) rfl rfl) rfl rfl hl.1 rfl (lv_room (Nat.le_of_ble_eq_true rfl)) dX5_weir_27 ⟨Nat.le_of_ble_eq_true rfl, Nat.le_of_ble_eq_true rfl⟩) hI (fun r6 E7 H locs hp hI => ?_)
    obtain ⟨he, hM, hn9⟩ := hp
    subst he
    have hS := hS.kept (fun q h1 h2 => hn9 q (by omega))
    have hA := hA.kept (fun q h1 h2 => hn9 q (by omega))
    have hfr : ∀ q : Nat, (q < 50 ∨ 91 ≤ q) → E7 q = E q := fun q hq => (hn9 q (by omega)).trans (hfr q hq)
    have hc : cm_weir p nw x y = 1 := if_neg (fun q => p_13 q.1)
    exact f_reti hQ hx hb hr hlocks hI.2.2 (by omega) (by omega) dX5_weir_30 E7 (fB_of hI) (Or.inr ⟨by rw [hc]; decide, rfl, by rw [hc]; exact ⟨hM, hS, _, _, hTa, hA⟩, hfr⟩)
  · have p_13 := bl_t he c_13
    refine lv_iload_n hx hb dX5_weir_16 rfl (lv_at hl 2 rfl) ?_
    refine lv_iconst (v := 0) hx hb dX5_weir_17 (by decide) ?_
    refine lv_iconst (v := 4) hx hb dX5_weir_18 (by decide) ?_
    refine f_calli1 (va_runS (As := [.int y, .int 0, .int 4]) (rest := []) ⟨hx, hb, hml, hown, hts⟩ (m_X5_isFrom l y 0 4) (va_cwS 3 hts gX5_weir_X5_isFrom rfl rfl rfl (by decide +kernel) ⟨Nat.le_of_ble_eq_true rfl, Nat.le_of_ble_eq_true rfl⟩) (fPre_of hG hI) rfl rfl hl.1 rfl (lv_room (Nat.le_of_ble_eq_true rfl)) dX5_weir_19 ⟨Nat.le_of_ble_eq_true rfl, Nat.le_of_ble_eq_true rfl⟩) hI (fun r8 E9 H locs hp hI => ?_)
    obtain ⟨he, hq⟩ := hp
    rw [hq] at hI
    refine lv_if_ne (tgt := 31) hx hb dX5_weir_22 (by decide) (fun c_22 => ?_) (fun c_22 => ?_)
    · have p_22 := bl_t he c_22
      refine lv_aload_n hx hb dX5_weir_31 rfl (lv_at hl 0 rfl) ?_
      refine f_get (ci := 5) (v := .int (nI nw)) (C := RX5) (T := TX5) (N := 9) hx hb hts (by decide +kernel) hown hG.1 hI rfl (hMm _ (by omega)) (hM.1) rfl 2 (by decide) (hts (.fieldLink RX5 49 "CoracleRaceModel" "weirs" "I") (by decide +kernel)) rfl dX5_weir_32 ?_
      refine lv_bipush (v := 6) hx hb dX5_weir_35 (by decide) ?_
      refine lv_icmp_ge (tgt := 44) hx hb dX5_weir_37 (by decide) (fun c_37 => ?_) (fun c_37 => ?_)
      · have n_37 := i_nlt.mpr c_37
        refine lv_iconst (v := 0) hx hb dX5_weir_44 (by decide) ?_
        refine lv_topi (fun tv etv => ?_)
        have etv : tv = (m_free p x nw 0) := etv.trans (by simp [m_free, c_37])
        subst etv
        refine lv_istore_n (lv' := [(3, .int (m_free p x nw 0)), (0, .ref (ad 50)), (1, .int x), (2, .int y)]) hx hb dX5_weir_45 rfl hl (by decide) rfl (fun ls hl => ?_)
        refine lv_iconst (v := 0) hx hb dX5_weir_46 (by decide) ?_
        refine lv_istore (lv' := [(4, .int 0), (3, .int (m_free p x nw 0)), (0, .ref (ad 50)), (1, .int x), (2, .int y)]) hx hb dX5_weir_47 hl (by decide) rfl (fun ls hl => ?_)
        have K : ∀ (k i : Nat), i ≤ nw → nw + 1 ≤ i + k → ∀ (H : Heap) (locs : List Loc) (ls : Array Slot), fI D (fA z) s.heap ad L E1 H locs → lv_has ls 5 [(0, .ref (ad 50)), (1, .int x), (2, .int y), (3, .int (m_free p x nw i)), (4, .int (nI i))] → W pr l e ({ frames := 1, cells := 0, slots := 0, locals := 22 } : Room) s m args below meth c H locs 0 0 Q (F0 m 49 ls []) := by
          intro k
          induction k with
          | zero => intro i h1 h2; exact absurd h2 (by omega)
          | succ k ih =>
            intro i hi1 hi2 H locs ls hI hl
            refine lv_iload hx hb dX5_weir_49 (lv_at hl 4 rfl) ?_
            refine lv_aload_n hx hb dX5_weir_51 rfl (lv_at hl 0 rfl) ?_
            refine f_get (ci := 5) (v := .int (nI nw)) (C := RX5) (T := TX5) (N := 9) hx hb hts (by decide +kernel) hown hG.1 hI rfl (hMm _ (by omega)) (hM.1) rfl 2 (by decide) (hts (.fieldLink RX5 49 "CoracleRaceModel" "weirs" "I") (by decide +kernel)) rfl dX5_weir_52 ?_
            refine lv_icmp_ge (tgt := 83) hx hb dX5_weir_55 (by decide) (fun c_55 => ?_) (fun c_55 => ?_)
            · have n_55 := i_nlt.mpr c_55
              have hi : i = nw := by have := (nI_leI (by omega) (by omega)).mp c_55; omega
              rw [hi] at hl
              refine lv_iload_n hx hb dX5_weir_83 rfl (lv_at hl 3 rfl) ?_
              refine lv_if_ne (tgt := 93) hx hb dX5_weir_84 (by decide) (fun c_84 => ?_) (fun c_84 => ?_)
              · have hw6 : nw < 6 := m_free_lt hNW c_84
                refine lv_aload_n hx hb dX5_weir_93 rfl (lv_at hl 0 rfl) ?_
                refine f_get (ci := 5) (v := .ref (ad 52)) (C := RX5) (T := TX5) (N := 9) hx hb hts (by decide +kernel) hown hG.1 hI rfl (hMm _ (by omega)) (hM.1) rfl 3 (by decide) (hts (.fieldLink RX5 13 "CoracleRaceModel" "weirAt" "[I") (by decide +kernel)) rfl dX5_weir_94 ?_
                refine lv_aload_n hx hb dX5_weir_97 rfl (lv_at hl 0 rfl) ?_
                refine f_get (ci := 5) (v := .int (nI nw)) (C := RX5) (T := TX5) (N := 9) hx hb hts (by decide +kernel) hown hG.1 hI rfl (hMm _ (by omega)) (hM.1) rfl 2 (by decide) (hts (.fieldLink RX5 49 "CoracleRaceModel" "weirs" "I") (by decide +kernel)) rfl dX5_weir_98 ?_
                refine lv_iload_n hx hb dX5_weir_101 rfl (lv_at hl 1 rfl) ?_
                refine f_iast hx hb hG.1 hI rfl (hMm _ (by omega)) (hM.2.2.1) (vp_in_nI (by omega) (by omega)) dX5_weir_102 (fun E10 H locs hE11 hn12 hI => ?_)
                have hM := hM.pla (by rw [nI_clamp (by omega)] at hE11; exact hE11) (fun q hq => hn12 q hq)
                have hS := hS.kept (fun q h1 h2 => hn12 q (by omega))
                have hA := hA.kept (fun q h1 h2 => hn12 q (by omega))
                have hfr : ∀ q : Nat, (q < 50 ∨ 91 ≤ q) → E10 q = E q := fun q hq => (hn12 q (by omega)).trans (hfr q hq)
                refine lv_aload_n hx hb dX5_weir_103 rfl (lv_at hl 0 rfl) ?_
                refine f_get (ci := 5) (v := .ref (ad 53)) (C := RX5) (T := TX5) (N := 9) hx hb hts (by decide +kernel) hown hG.1 hI rfl (hMm _ (by omega)) (hM.1) rfl 4 (by decide) (hts (.fieldLink RX5 16 "CoracleRaceModel" "gap" "[I") (by decide +kernel)) rfl dX5_weir_104 ?_
                refine lv_aload_n hx hb dX5_weir_107 rfl (lv_at hl 0 rfl) ?_
                refine f_get (ci := 5) (v := .int (nI nw)) (C := RX5) (T := TX5) (N := 9) hx hb hts (by decide +kernel) hown hG.1 hI rfl (hMm _ (by omega)) (hM.1) rfl 2 (by decide) (hts (.fieldLink RX5 49 "CoracleRaceModel" "weirs" "I") (by decide +kernel)) rfl dX5_weir_108 ?_
                refine lv_iload_n hx hb dX5_weir_111 rfl (lv_at hl 2 rfl) ?_
                refine f_iast hx hb hG.1 hI rfl (hMm _ (by omega)) (hM.2.2.2.1) (vp_in_nI (by omega) (by omega)) dX5_weir_112 (fun E13 H locs hE14 hn15 hI => ?_)
                have hM := hM.gap (by rw [nI_clamp (by omega)] at hE14; exact hE14) (fun q hq => hn15 q hq)
                have hS := hS.kept (fun q h1 h2 => hn15 q (by omega))
                have hA := hA.kept (fun q h1 h2 => hn15 q (by omega))
                have hfr : ∀ q : Nat, (q < 50 ∨ 91 ≤ q) → E13 q = E q := fun q hq => (hn15 q (by omega)).trans (hfr q hq)
                refine lv_aload_n hx hb dX5_weir_113 rfl (lv_at hl 0 rfl) ?_
                refine lv_dup hx hb dX5_weir_114 rfl ?_
                refine f_get (ci := 5) (v := .int (nI nw)) (C := RX5) (T := TX5) (N := 9) hx hb hts (by decide +kernel) hown hG.1 hI rfl (hMm _ (by omega)) (hM.1) rfl 2 (by decide) (hts (.fieldLink RX5 49 "CoracleRaceModel" "weirs" "I") (by decide +kernel)) rfl dX5_weir_115 ?_
                refine lv_iconst (v := 1) hx hb dX5_weir_118 (by decide) ?_
                refine lv_iadd hx hb dX5_weir_119 ?_
                refine lv_topi (fun tv etv => ?_)
                have etv : tv = (nI (nw + 1)) := etv.trans (nI_1 nw)
                subst etv
                refine f_put (ci := 5) (v := .int (nI (nw + 1))) (C := RX5) (T := TX5) (N := 9) hx hb hts (by decide +kernel) tyX5 tyX5_ok nmX5 hown hG.1 hI rfl (hMm _ (by omega)) (hM.1) rfl 2 (by decide) (hts (.fieldLink RX5 49 "CoracleRaceModel" "weirs" "I") (by decide +kernel)) rfl rfl rfl (Nat.le_of_ble_eq_true rfl) dX5_weir_120 (fun E16 H locs hE17 hn18 hI => ?_)
                have hM := hM.top (th1 := 0) (nw1 := (nw + 1)) (n1 := n) hE17 (fun q hq => hn18 q hq)
                have hS := hS.kept (fun q h1 h2 => hn18 q (by omega))
                have hA := hA.kept (fun q h1 h2 => hn18 q (by omega))
                have hfr : ∀ q : Nat, (q < 50 ∨ 91 ≤ q) → E16 q = E q := fun q hq => (hn18 q (by omega)).trans (hfr q hq)
                refine lv_aload_n hx hb dX5_weir_123 rfl (lv_at hl 0 rfl) ?_
                refine f_get (ci := 5) (v := .int (nI (nw + 1))) (C := RX5) (T := TX5) (N := 9) hx hb hts (by decide +kernel) hown hG.1 hI rfl (hMm _ (by omega)) (hM.1) rfl 2 (by decide) (hts (.fieldLink RX5 49 "CoracleRaceModel" "weirs" "I") (by decide +kernel)) rfl dX5_weir_124 ?_
                have hc : cm_weir p nw x y = 0 := (if_pos ⟨p_13, p_22⟩).trans (if_neg c_84)
                exact f_reti hQ hx hb hr hlocks hI.2.2 (by omega) (by omega) dX5_weir_127 E16 (fB_of hI) (Or.inl ⟨hc, rfl, ⟨hM, hS, _, _, hTa, hA⟩, hfr⟩)
              · refine lv_aload_n hx hb dX5_weir_87 rfl (lv_at hl 0 rfl) ?_
                refine lv_iconst (v := 2) hx hb dX5_weir_88 (by decide) ?_
                refine f_calli1 (va_runV (As := [.int 2]) (rest := []) ⟨hx, hb, hml, hown, hts⟩ (m_X5_no l (hMm _ (by decide)) hM 2) (cwV 1 hts gX5_weir_X5_no rfl rfl rfl (by decide +kernel) ⟨Nat.le_of_ble_eq_true rfl, Nat.le_of_ble_eq_true rfl⟩) (fPre_ofV hG hI rfl (hMm _ (by omega)) (hM.1) rfl rfl) rfl rfl hl.1 rfl (lv_room (Nat.le_of_ble_eq_true rfl)) dX5_weir_89 ⟨Nat.le_of_ble_eq_true rfl, Nat.le_of_ble_eq_true rfl⟩) hI (fun r19 E20 H locs hp hI => ?_)
                obtain ⟨he, hM, hn9⟩ := hp
                subst he
                have hS := hS.kept (fun q h1 h2 => hn9 q (by omega))
                have hA := hA.kept (fun q h1 h2 => hn9 q (by omega))
                have hfr : ∀ q : Nat, (q < 50 ∨ 91 ≤ q) → E20 q = E q := fun q hq => (hn9 q (by omega)).trans (hfr q hq)
                have hc : cm_weir p nw x y = 2 := (if_pos ⟨p_13, p_22⟩).trans (if_pos c_84)
                exact f_reti hQ hx hb hr hlocks hI.2.2 (by omega) (by omega) dX5_weir_92 E20 (fB_of hI) (Or.inr ⟨by rw [hc]; decide, rfl, by rw [hc]; exact ⟨hM, hS, _, _, hTa, hA⟩, hfr⟩)
            · have n_55 := c_55
              have c_55 := i_nle.mp n_55
              have hi : i < nw := (nI_ltI (by omega) (by omega)).mp c_55
              have hcl : (nI i).toNatClampNeg = i := nI_clamp (by omega)
              refine lv_iload_n hx hb dX5_weir_58 rfl (lv_at hl 3 rfl) ?_
              refine lv_aload_n hx hb dX5_weir_59 rfl (lv_at hl 0 rfl) ?_
              refine f_get (ci := 5) (v := .ref (ad 52)) (C := RX5) (T := TX5) (N := 9) hx hb hts (by decide +kernel) hown hG.1 hI rfl (hMm _ (by omega)) (hM.1) rfl 3 (by decide) (hts (.fieldLink RX5 13 "CoracleRaceModel" "weirAt" "[I") (by decide +kernel)) rfl dX5_weir_60 ?_
              refine lv_iload hx hb dX5_weir_63 (lv_at hl 4 rfl) ?_
              refine f_iald hx hb hG.1 hI rfl (hMm _ (by omega)) (hM.2.2.1) (vp_in_nI (by omega) (by omega)) dX5_weir_65 ?_
              rw [hcl]
              refine lv_iload_n hx hb dX5_weir_66 rfl (lv_at hl 1 rfl) ?_
              refine lv_icmp_eq (tgt := 74) hx hb dX5_weir_67 (by decide) (fun c_67 => ?_) (fun c_67 => ?_)
              · refine lv_iconst (v := 0) hx hb dX5_weir_74 (by decide) ?_
                refine lv_iand hx hb dX5_weir_75 ?_
                refine lv_topi (fun tv etv => ?_)
                have etv : tv = (m_free p x nw (i + 1)) := etv.trans (by simp [m_free, c_67])
                subst etv
                refine lv_istore_n (lv' := [(3, .int (m_free p x nw (i + 1))), (0, .ref (ad 50)), (1, .int x), (2, .int y), (4, .int (nI i))]) hx hb dX5_weir_76 rfl hl (by decide) rfl (fun ls hl => ?_)
                refine lv_iinc (v := (nI (i + 1))) (lv' := [(4, .int (nI (i + 1))), (3, .int (m_free p x nw (i + 1))), (0, .ref (ad 50)), (1, .int x), (2, .int y)]) hx hb dX5_weir_77 hl (k := 4) rfl (nI_1 i) (by decide) rfl (fun ls hl => ?_)
                refine lv_goto (tgt := 49) hx hb dX5_weir_80 (by decide) ?_
                refine ih (i + 1) (by omega) (by omega) H locs ls hI ?_
                exact lv_sub hl [2, 3, 4, 1, 0] rfl
              · refine lv_iconst (v := 1) hx hb dX5_weir_70 (by decide) ?_
                refine lv_goto (tgt := 75) hx hb dX5_weir_71 (by decide) ?_
                refine lv_iand hx hb dX5_weir_75 ?_
                refine lv_topi (fun tv etv => ?_)
                have etv : tv = (m_free p x nw (i + 1)) := etv.trans (by simp [m_free, c_67])
                subst etv
                refine lv_istore_n (lv' := [(3, .int (m_free p x nw (i + 1))), (0, .ref (ad 50)), (1, .int x), (2, .int y), (4, .int (nI i))]) hx hb dX5_weir_76 rfl hl (by decide) rfl (fun ls hl => ?_)
                refine lv_iinc (v := (nI (i + 1))) (lv' := [(4, .int (nI (i + 1))), (3, .int (m_free p x nw (i + 1))), (0, .ref (ad 50)), (1, .int x), (2, .int y)]) hx hb dX5_weir_77 hl (k := 4) rfl (nI_1 i) (by decide) rfl (fun ls hl => ?_)
                refine lv_goto (tgt := 49) hx hb dX5_weir_80 (by decide) ?_
                refine ih (i + 1) (by omega) (by omega) H locs ls hI ?_
                exact lv_sub hl [2, 3, 4, 1, 0] rfl
        exact K (nw + 1) 0 (Nat.zero_le _) (by omega) H locs ls hI (lv_sub hl [2, 3, 4, 1, 0] rfl)
      · have n_37 := c_37
        have c_37 := i_nle.mp n_37
        refine lv_iconst (v := 1) hx hb dX5_weir_40 (by decide) ?_
        refine lv_goto (tgt := 45) hx hb dX5_weir_41 (by decide) ?_
        refine lv_topi (fun tv etv => ?_)
        have etv : tv = (m_free p x nw 0) := etv.trans (by simp [m_free, c_37])
        subst etv
        refine lv_istore_n (lv' := [(3, .int (m_free p x nw 0)), (0, .ref (ad 50)), (1, .int x), (2, .int y)]) hx hb dX5_weir_45 rfl hl (by decide) rfl (fun ls hl => ?_)
        refine lv_iconst (v := 0) hx hb dX5_weir_46 (by decide) ?_
        refine lv_istore (lv' := [(4, .int 0), (3, .int (m_free p x nw 0)), (0, .ref (ad 50)), (1, .int x), (2, .int y)]) hx hb dX5_weir_47 hl (by decide) rfl (fun ls hl => ?_)
        have K : ∀ (k i : Nat), i ≤ nw → nw + 1 ≤ i + k → ∀ (H : Heap) (locs : List Loc) (ls : Array Slot), fI D (fA z) s.heap ad L E1 H locs → lv_has ls 5 [(0, .ref (ad 50)), (1, .int x), (2, .int y), (3, .int (m_free p x nw i)), (4, .int (nI i))] → W pr l e ({ frames := 1, cells := 0, slots := 0, locals := 22 } : Room) s m args below meth c H locs 0 0 Q (F0 m 49 ls []) := by
          intro k
          induction k with
          | zero => intro i h1 h2; exact absurd h2 (by omega)
          | succ k ih =>
            intro i hi1 hi2 H locs ls hI hl
            refine lv_iload hx hb dX5_weir_49 (lv_at hl 4 rfl) ?_
            refine lv_aload_n hx hb dX5_weir_51 rfl (lv_at hl 0 rfl) ?_
            refine f_get (ci := 5) (v := .int (nI nw)) (C := RX5) (T := TX5) (N := 9) hx hb hts (by decide +kernel) hown hG.1 hI rfl (hMm _ (by omega)) (hM.1) rfl 2 (by decide) (hts (.fieldLink RX5 49 "CoracleRaceModel" "weirs" "I") (by decide +kernel)) rfl dX5_weir_52 ?_
            refine lv_icmp_ge (tgt := 83) hx hb dX5_weir_55 (by decide) (fun c_55 => ?_) (fun c_55 => ?_)
            · have n_55 := i_nlt.mpr c_55
              have hi : i = nw := by have := (nI_leI (by omega) (by omega)).mp c_55; omega
              rw [hi] at hl
              refine lv_iload_n hx hb dX5_weir_83 rfl (lv_at hl 3 rfl) ?_
              refine lv_if_ne (tgt := 93) hx hb dX5_weir_84 (by decide) (fun c_84 => ?_) (fun c_84 => ?_)
              · have hw6 : nw < 6 := m_free_lt hNW c_84
                refine lv_aload_n hx hb dX5_weir_93 rfl (lv_at hl 0 rfl) ?_
                refine f_get (ci := 5) (v := .ref (ad 52)) (C := RX5) (T := TX5) (N := 9) hx hb hts (by decide +kernel) hown hG.1 hI rfl (hMm _ (by omega)) (hM.1) rfl 3 (by decide) (hts (.fieldLink RX5 13 "CoracleRaceModel" "weirAt" "[I") (by decide +kernel)) rfl dX5_weir_94 ?_
                refine lv_aload_n hx hb dX5_weir_97 rfl (lv_at hl 0 rfl) ?_
                refine f_get (ci := 5) (v := .int (nI nw)) (C := RX5) (T := TX5) (N := 9) hx hb hts (by decide +kernel) hown hG.1 hI rfl (hMm _ (by omega)) (hM.1) rfl 2 (by decide) (hts (.fieldLink RX5 49 "CoracleRaceModel" "weirs" "I") (by decide +kernel)) rfl dX5_weir_98 ?_
                refine lv_iload_n hx hb dX5_weir_101 rfl (lv_at hl 1 rfl) ?_
                refine f_iast hx hb hG.1 hI rfl (hMm _ (by omega)) (hM.2.2.1) (vp_in_nI (by omega) (by omega)) dX5_weir_102 (fun E21 H locs hE22 hn23 hI => ?_)
                have hM := hM.pla (by rw [nI_clamp (by omega)] at hE22; exact hE22) (fun q hq => hn23 q hq)
                have hS := hS.kept (fun q h1 h2 => hn23 q (by omega))
                have hA := hA.kept (fun q h1 h2 => hn23 q (by omega))
                have hfr : ∀ q : Nat, (q < 50 ∨ 91 ≤ q) → E21 q = E q := fun q hq => (hn23 q (by omega)).trans (hfr q hq)
                refine lv_aload_n hx hb dX5_weir_103 rfl (lv_at hl 0 rfl) ?_
                refine f_get (ci := 5) (v := .ref (ad 53)) (C := RX5) (T := TX5) (N := 9) hx hb hts (by decide +kernel) hown hG.1 hI rfl (hMm _ (by omega)) (hM.1) rfl 4 (by decide) (hts (.fieldLink RX5 16 "CoracleRaceModel" "gap" "[I") (by decide +kernel)) rfl dX5_weir_104 ?_
                refine lv_aload_n hx hb dX5_weir_107 rfl (lv_at hl 0 rfl) ?_
                refine f_get (ci := 5) (v := .int (nI nw)) (C := RX5) (T := TX5) (N := 9) hx hb hts (by decide +kernel) hown hG.1 hI rfl (hMm _ (by omega)) (hM.1) rfl 2 (by decide) (hts (.fieldLink RX5 49 "CoracleRaceModel" "weirs" "I") (by decide +kernel)) rfl dX5_weir_108 ?_
                refine lv_iload_n hx hb dX5_weir_111 rfl (lv_at hl 2 rfl) ?_
                refine f_iast hx hb hG.1 hI rfl (hMm _ (by omega)) (hM.2.2.2.1) (vp_in_nI (by omega) (by omega)) dX5_weir_112 (fun E24 H locs hE25 hn26 hI => ?_)
                have hM := hM.gap (by rw [nI_clamp (by omega)] at hE25; exact hE25) (fun q hq => hn26 q hq)
                have hS := hS.kept (fun q h1 h2 => hn26 q (by omega))
                have hA := hA.kept (fun q h1 h2 => hn26 q (by omega))
                have hfr : ∀ q : Nat, (q < 50 ∨ 91 ≤ q) → E24 q = E q := fun q hq => (hn26 q (by omega)).trans (hfr q hq)
                refine lv_aload_n hx hb dX5_weir_113 rfl (lv_at hl 0 rfl) ?_
                refine lv_dup hx hb dX5_weir_114 rfl ?_
                refine f_get (ci := 5) (v := .int (nI nw)) (C := RX5) (T := TX5) (N := 9) hx hb hts (by decide +kernel) hown hG.1 hI rfl (hMm _ (by omega)) (hM.1) rfl 2 (by decide) (hts (.fieldLink RX5 49 "CoracleRaceModel" "weirs" "I") (by decide +kernel)) rfl dX5_weir_115 ?_
                refine lv_iconst (v := 1) hx hb dX5_weir_118 (by decide) ?_
                refine lv_iadd hx hb dX5_weir_119 ?_
                refine lv_topi (fun tv etv => ?_)
                have etv : tv = (nI (nw + 1)) := etv.trans (nI_1 nw)
                subst etv
                refine f_put (ci := 5) (v := .int (nI (nw + 1))) (C := RX5) (T := TX5) (N := 9) hx hb hts (by decide +kernel) tyX5 tyX5_ok nmX5 hown hG.1 hI rfl (hMm _ (by omega)) (hM.1) rfl 2 (by decide) (hts (.fieldLink RX5 49 "CoracleRaceModel" "weirs" "I") (by decide +kernel)) rfl rfl rfl (Nat.le_of_ble_eq_true rfl) dX5_weir_120 (fun E27 H locs hE28 hn29 hI => ?_)
                have hM := hM.top (th1 := 0) (nw1 := (nw + 1)) (n1 := n) hE28 (fun q hq => hn29 q hq)
                have hS := hS.kept (fun q h1 h2 => hn29 q (by omega))
                have hA := hA.kept (fun q h1 h2 => hn29 q (by omega))
                have hfr : ∀ q : Nat, (q < 50 ∨ 91 ≤ q) → E27 q = E q := fun q hq => (hn29 q (by omega)).trans (hfr q hq)
                refine lv_aload_n hx hb dX5_weir_123 rfl (lv_at hl 0 rfl) ?_
                refine f_get (ci := 5) (v := .int (nI (nw + 1))) (C := RX5) (T := TX5) (N := 9) hx hb hts (by decide +kernel) hown hG.1 hI rfl (hMm _ (by omega)) (hM.1) rfl 2 (by decide) (hts (.fieldLink RX5 49 "CoracleRaceModel" "weirs" "I") (by decide +kernel)) rfl dX5_weir_124 ?_
                have hc : cm_weir p nw x y = 0 := (if_pos ⟨p_13, p_22⟩).trans (if_neg c_84)
                exact f_reti hQ hx hb hr hlocks hI.2.2 (by omega) (by omega) dX5_weir_127 E27 (fB_of hI) (Or.inl ⟨hc, rfl, ⟨hM, hS, _, _, hTa, hA⟩, hfr⟩)
              · refine lv_aload_n hx hb dX5_weir_87 rfl (lv_at hl 0 rfl) ?_
                refine lv_iconst (v := 2) hx hb dX5_weir_88 (by decide) ?_
                refine f_calli1 (va_runV (As := [.int 2]) (rest := []) ⟨hx, hb, hml, hown, hts⟩ (m_X5_no l (hMm _ (by decide)) hM 2) (cwV 1 hts gX5_weir_X5_no rfl rfl rfl (by decide +kernel) ⟨Nat.le_of_ble_eq_true rfl, Nat.le_of_ble_eq_true rfl⟩) (fPre_ofV hG hI rfl (hMm _ (by omega)) (hM.1) rfl rfl) rfl rfl hl.1 rfl (lv_room (Nat.le_of_ble_eq_true rfl)) dX5_weir_89 ⟨Nat.le_of_ble_eq_true rfl, Nat.le_of_ble_eq_true rfl⟩) hI (fun r30 E31 H locs hp hI => ?_)
                obtain ⟨he, hM, hn9⟩ := hp
                subst he
                have hS := hS.kept (fun q h1 h2 => hn9 q (by omega))
                have hA := hA.kept (fun q h1 h2 => hn9 q (by omega))
                have hfr : ∀ q : Nat, (q < 50 ∨ 91 ≤ q) → E31 q = E q := fun q hq => (hn9 q (by omega)).trans (hfr q hq)
                have hc : cm_weir p nw x y = 2 := (if_pos ⟨p_13, p_22⟩).trans (if_pos c_84)
                exact f_reti hQ hx hb hr hlocks hI.2.2 (by omega) (by omega) dX5_weir_92 E31 (fB_of hI) (Or.inr ⟨by rw [hc]; decide, rfl, by rw [hc]; exact ⟨hM, hS, _, _, hTa, hA⟩, hfr⟩)
            · have n_55 := c_55
              have c_55 := i_nle.mp n_55
              have hi : i < nw := (nI_ltI (by omega) (by omega)).mp c_55
              have hcl : (nI i).toNatClampNeg = i := nI_clamp (by omega)
              refine lv_iload_n hx hb dX5_weir_58 rfl (lv_at hl 3 rfl) ?_
              refine lv_aload_n hx hb dX5_weir_59 rfl (lv_at hl 0 rfl) ?_
              refine f_get (ci := 5) (v := .ref (ad 52)) (C := RX5) (T := TX5) (N := 9) hx hb hts (by decide +kernel) hown hG.1 hI rfl (hMm _ (by omega)) (hM.1) rfl 3 (by decide) (hts (.fieldLink RX5 13 "CoracleRaceModel" "weirAt" "[I") (by decide +kernel)) rfl dX5_weir_60 ?_
              refine lv_iload hx hb dX5_weir_63 (lv_at hl 4 rfl) ?_
              refine f_iald hx hb hG.1 hI rfl (hMm _ (by omega)) (hM.2.2.1) (vp_in_nI (by omega) (by omega)) dX5_weir_65 ?_
              rw [hcl]
              refine lv_iload_n hx hb dX5_weir_66 rfl (lv_at hl 1 rfl) ?_
              refine lv_icmp_eq (tgt := 74) hx hb dX5_weir_67 (by decide) (fun c_67 => ?_) (fun c_67 => ?_)
              · refine lv_iconst (v := 0) hx hb dX5_weir_74 (by decide) ?_
                refine lv_iand hx hb dX5_weir_75 ?_
                refine lv_topi (fun tv etv => ?_)
                have etv : tv = (m_free p x nw (i + 1)) := etv.trans (by simp [m_free, c_67])
                subst etv
                refine lv_istore_n (lv' := [(3, .int (m_free p x nw (i + 1))), (0, .ref (ad 50)), (1, .int x), (2, .int y), (4, .int (nI i))]) hx hb dX5_weir_76 rfl hl (by decide) rfl (fun ls hl => ?_)
                refine lv_iinc (v := (nI (i + 1))) (lv' := [(4, .int (nI (i + 1))), (3, .int (m_free p x nw (i + 1))), (0, .ref (ad 50)), (1, .int x), (2, .int y)]) hx hb dX5_weir_77 hl (k := 4) rfl (nI_1 i) (by decide) rfl (fun ls hl => ?_)
                refine lv_goto (tgt := 49) hx hb dX5_weir_80 (by decide) ?_
                refine ih (i + 1) (by omega) (by omega) H locs ls hI ?_
                exact lv_sub hl [2, 3, 4, 1, 0] rfl
              · refine lv_iconst (v := 1) hx hb dX5_weir_70 (by decide) ?_
                refine lv_goto (tgt := 75) hx hb dX5_weir_71 (by decide) ?_
                refine lv_iand hx hb dX5_weir_75 ?_
                refine lv_topi (fun tv etv => ?_)
                have etv : tv = (m_free p x nw (i + 1)) := etv.trans (by simp [m_free, c_67])
                subst etv
                refine lv_istore_n (lv' := [(3, .int (m_free p x nw (i + 1))), (0, .ref (ad 50)), (1, .int x), (2, .int y), (4, .int (nI i))]) hx hb dX5_weir_76 rfl hl (by decide) rfl (fun ls hl => ?_)
                refine lv_iinc (v := (nI (i + 1))) (lv' := [(4, .int (nI (i + 1))), (3, .int (m_free p x nw (i + 1))), (0, .ref (ad 50)), (1, .int x), (2, .int y)]) hx hb dX5_weir_77 hl (k := 4) rfl (nI_1 i) (by decide) rfl (fun ls hl => ?_)
                refine lv_goto (tgt := 49) hx hb dX5_weir_80 (by decide) ?_
                refine ih (i + 1) (by omega) (by omega) H locs ls hI ?_
                exact lv_sub hl [2, 3, 4, 1, 0] rfl
        exact K (nw + 1) 0 (Nat.zero_le _) (by omega) H locs ls hI (lv_sub hl [2, 3, 4, 1, 0] rfl)
    · have p_22 := bl_f he c_22
      refine lv_aload_n hx hb dX5_weir_25 rfl (lv_at hl 0 rfl) ?_
      refine lv_iconst (v := 1) hx hb dX5_weir_26 (by decide) ?_
      refine f_calli1 (va_runV (As := [.int 1]) (rest := []) ⟨hx, hb, hml, hown, hts⟩ (m_X5_no l (hMm _ (by decide)) hM 1) (cwV 1 hts gX5_weir_X5_no rfl rfl rfl (by decide +kernel) ⟨Nat.le_of_ble_eq_true rfl, Nat.le_of_ble_eq_true rfl⟩) (fPre_ofV hG hI rfl (hMm _ (by omega)) (hM.1) rfl rfl) rfl rfl hl.1 rfl (lv_room (Nat.le_of_ble_eq_true rfl)) dX5_weir_27 ⟨Nat.le_of_ble_eq_true rfl, Nat.le_of_ble_eq_true rfl⟩) hI (fun r32 E33 H locs hp hI => ?_)
      obtain ⟨he, hM, hn9⟩ := hp
      subst he
      have hS := hS.kept (fun q h1 h2 => hn9 q (by omega))
      have hA := hA.kept (fun q h1 h2 => hn9 q (by omega))
      have hfr : ∀ q : Nat, (q < 50 ∨ 91 ≤ q) → E33 q = E q := fun q hq => (hn9 q (by omega)).trans (hfr q hq)
      have hc : cm_weir p nw x y = 1 := if_neg (fun q => p_22 q.2)
      exact f_reti hQ hx hb hr hlocks hI.2.2 (by omega) (by omega) dX5_weir_30 E33 (fB_of hI) (Or.inr ⟨by rw [hc]; decide, rfl, by rw [hc]; exact ⟨hM, hS, _, _, hTa, hA⟩, hfr⟩)

set_option maxHeartbeats 4000000 in
set_option maxRecDepth 100000 in
theorem m_X5_launch (l : Launch) {D : va_G} {cI cJ cB : ClassId} {t0 z : Nat} {tx ad : Nat → Nat} {L : List Nat} {E : Nat → va_E} {th : Int32} {w p g : Nat → Int32} {nw n T : Nat} {str : Nat → Int32} {S : Nat → Nat → Int32} (hMS : mm cI ad E th w p g nw n T str S) (hMm : ∀ k, (50 ≤ k ∧ k < 55) ∨ (60 ≤ k ∧ k < 71) ∨ (80 ≤ k ∧ k < 91) → k ∈ L) (hNW : nw ≤ 6) (hN6 : n ≤ 6) (hTb : T < 2 ^ 30) (hrv : okr w p nw) (hok : ∀ q, q < n → okb (mb S str q)) (h99 : 99 ∉ L) (x y : Int32) : Met l yX5_launch wsX5_launch ({ frames := 1, cells := 0, slots := 0, locals := 22 } : Room) (va_Pc [.ref (ad 50), .int x, .int y] (fPre D cI cJ cB t0 z tx ad L E)) (va_Qi (fun (r : Int32) (E1 : Nat → va_E) => (cm_launch n x y = 0 ∧ r = nI n ∧ mm cI ad E1 0 w p g nw (n + 1) T (upd str n y) (m_lau S n x) ∧ ∀ q : Nat, (q < 50 ∨ 91 ≤ q) → E1 q = E q) ∨ (¬ cm_launch n x y = 0 ∧ r = 0 ∧ mm cI ad E1 (cm_launch n x y) w p g nw n T str S ∧ ∀ q : Nat, (q < 50 ∨ 91 ≤ q) → E1 q = E q)) (fB D z ad L) (fA z)) 0 0 (fA z) := by
  refine f_ofW (cc := cX5_launch) (maxL := 3) (ret := some .int) (by decide) rfl (Nat.le_of_ble_eq_true rfl) ?_
  intro pr e s m args below meth c Q hx hb hr hml hts hown hlocks hin hG H locs hI hQ ls hl
  have hl : lv_has ls 3 [(0, .ref (ad 50)), (1, .int x), (2, .int y)] := hl
  have hfr : ∀ q : Nat, (q < 50 ∨ 91 ≤ q) → E q = E q := fun _ _ => rfl
  obtain ⟨hM, hS, Ta, Sa, hTa, hA⟩ := id hMS
  refine lv_aload_n hx hb dX5_launch_0 rfl (lv_at hl 0 rfl) ?_
  refine lv_iconst (v := 0) hx hb dX5_launch_1 (by decide) ?_
  refine f_put (ci := 5) (v := .int 0) (C := RX5) (T := TX5) (N := 9) hx hb hts (by decide +kernel) tyX5 tyX5_ok nmX5 hown hG.1 hI rfl (hMm _ (by omega)) (hM.1) rfl 0 (by decide) (hts (.fieldLink RX5 34 "CoracleRaceModel" "thrown" "I") (by decide +kernel)) rfl rfl rfl (Nat.le_of_ble_eq_true rfl) dX5_launch_2 (fun E1 H locs hE2 hn3 hI => ?_)
  have hM := hM.top (th1 := 0) (nw1 := nw) (n1 := n) hE2 (fun q hq => hn3 q hq)
  have hS := hS.kept (fun q h1 h2 => hn3 q (by omega))
  have hA := hA.kept (fun q h1 h2 => hn3 q (by omega))
  have hfr : ∀ q : Nat, (q < 50 ∨ 91 ≤ q) → E1 q = E q := fun q hq => (hn3 q (by omega)).trans (hfr q hq)
  refine lv_iload_n hx hb dX5_launch_5 rfl (lv_at hl 1 rfl) ?_
  refine lv_iconst (v := 0) hx hb dX5_launch_6 (by decide) ?_
  refine lv_iconst (v := 4) hx hb dX5_launch_7 (by decide) ?_
  refine f_calli1 (va_runS (As := [.int x, .int 0, .int 4]) (rest := []) ⟨hx, hb, hml, hown, hts⟩ (m_X5_isFrom l x 0 4) (va_cwS 3 hts gX5_launch_X5_isFrom rfl rfl rfl (by decide +kernel) ⟨Nat.le_of_ble_eq_true rfl, Nat.le_of_ble_eq_true rfl⟩) (fPre_of hG hI) rfl rfl hl.1 rfl (lv_room (Nat.le_of_ble_eq_true rfl)) dX5_launch_8 ⟨Nat.le_of_ble_eq_true rfl, Nat.le_of_ble_eq_true rfl⟩) hI (fun r4 E5 H locs hp hI => ?_)
  obtain ⟨he, hq⟩ := hp
  rw [hq] at hI
  refine lv_if_eq (tgt := 24) hx hb dX5_launch_11 (by decide) (fun c_11 => ?_) (fun c_11 => ?_)
  · have p_11 := bl_f he c_11
    refine lv_aload_n hx hb dX5_launch_24 rfl (lv_at hl 0 rfl) ?_
    refine lv_iconst (v := 1) hx hb dX5_launch_25 (by decide) ?_
    refine f_calli1 (va_runV (As := [.int 1]) (rest := []) ⟨hx, hb, hml, hown, hts⟩ (m_X5_no l (hMm _ (by decide)) hM 1) (cwV 1 hts gX5_launch_X5_no rfl rfl rfl (by decide +kernel) ⟨Nat.le_of_ble_eq_true rfl, Nat.le_of_ble_eq_true rfl⟩) (fPre_ofV hG hI rfl (hMm _ (by omega)) (hM.1) rfl rfl) rfl rfl hl.1 rfl (lv_room (Nat.le_of_ble_eq_true rfl)) dX5_launch_26 ⟨Nat.le_of_ble_eq_true rfl, Nat.le_of_ble_eq_true rfl⟩) hI (fun r6 E7 H locs hp hI => ?_)
    obtain ⟨he, hM, hn9⟩ := hp
    subst he
    have hS := hS.kept (fun q h1 h2 => hn9 q (by omega))
    have hA := hA.kept (fun q h1 h2 => hn9 q (by omega))
    have hfr : ∀ q : Nat, (q < 50 ∨ 91 ≤ q) → E7 q = E q := fun q hq => (hn9 q (by omega)).trans (hfr q hq)
    have hc : cm_launch n x y = 1 := if_neg (fun q => p_11 q.1)
    exact f_reti hQ hx hb hr hlocks hI.2.2 (by omega) (by omega) dX5_launch_29 E7 (fB_of hI) (Or.inr ⟨by rw [hc]; decide, rfl, by rw [hc]; exact ⟨hM, hS, _, _, hTa, hA⟩, hfr⟩)
  · have p_11 := bl_t he c_11
    refine lv_iload_n hx hb dX5_launch_14 rfl (lv_at hl 2 rfl) ?_
    refine lv_iconst (v := 1) hx hb dX5_launch_15 (by decide) ?_
    refine lv_bipush (v := 8) hx hb dX5_launch_16 (by decide) ?_
    refine f_calli1 (va_runS (As := [.int y, .int 1, .int 8]) (rest := []) ⟨hx, hb, hml, hown, hts⟩ (m_X5_isFrom l y 1 8) (va_cwS 3 hts gX5_launch_X5_isFrom rfl rfl rfl (by decide +kernel) ⟨Nat.le_of_ble_eq_true rfl, Nat.le_of_ble_eq_true rfl⟩) (fPre_of hG hI) rfl rfl hl.1 rfl (lv_room (Nat.le_of_ble_eq_true rfl)) dX5_launch_18 ⟨Nat.le_of_ble_eq_true rfl, Nat.le_of_ble_eq_true rfl⟩) hI (fun r8 E9 H locs hp hI => ?_)
    obtain ⟨he, hq⟩ := hp
    rw [hq] at hI
    refine lv_if_ne (tgt := 30) hx hb dX5_launch_21 (by decide) (fun c_21 => ?_) (fun c_21 => ?_)
    · have p_21 := bl_t he c_21
      refine lv_aload_n hx hb dX5_launch_30 rfl (lv_at hl 0 rfl) ?_
      refine f_get (ci := 5) (v := .int (nI n)) (C := RX5) (T := TX5) (N := 9) hx hb hts (by decide +kernel) hown hG.1 hI rfl (hMm _ (by omega)) (hM.1) rfl 5 (by decide) (hts (.fieldLink RX5 38 "CoracleRaceModel" "boats" "I") (by decide +kernel)) rfl dX5_launch_31 ?_
      refine lv_bipush (v := 6) hx hb dX5_launch_34 (by decide) ?_
      refine lv_icmp_ne (tgt := 45) hx hb dX5_launch_36 (by decide) (fun c_36 => ?_) (fun c_36 => ?_)
      · have hn66 : n < 6 := n_six hN6 c_36
        refine lv_aload_n hx hb dX5_launch_45 rfl (lv_at hl 0 rfl) ?_
        refine f_get (ci := 5) (v := .ref (ad 54)) (C := RX5) (T := TX5) (N := 9) hx hb hts (by decide +kernel) hown hG.1 hI rfl (hMm _ (by omega)) (hM.1) rfl 6 (by decide) (hts (.fieldLink RX5 19 "CoracleRaceModel" "strength" "[I") (by decide +kernel)) rfl dX5_launch_46 ?_
        refine lv_aload_n hx hb dX5_launch_49 rfl (lv_at hl 0 rfl) ?_
        refine f_get (ci := 5) (v := .int (nI n)) (C := RX5) (T := TX5) (N := 9) hx hb hts (by decide +kernel) hown hG.1 hI rfl (hMm _ (by omega)) (hM.1) rfl 5 (by decide) (hts (.fieldLink RX5 38 "CoracleRaceModel" "boats" "I") (by decide +kernel)) rfl dX5_launch_50 ?_
        refine lv_iload_n hx hb dX5_launch_53 rfl (lv_at hl 2 rfl) ?_
        refine f_iast hx hb hG.1 hI rfl (hMm _ (by omega)) (hM.2.2.2.2) (vp_in_nI (by omega) (by omega)) dX5_launch_54 (fun E10 H locs hE11 hn12 hI => ?_)
        have hM := hM.str (by rw [nI_clamp (by omega)] at hE11; exact hE11) (fun q hq => hn12 q hq)
        have hS := hS.kept (fun q h1 h2 => hn12 q (by omega))
        have hA := hA.kept (fun q h1 h2 => hn12 q (by omega))
        have hfr : ∀ q : Nat, (q < 50 ∨ 91 ≤ q) → E10 q = E q := fun q hq => (hn12 q (by omega)).trans (hfr q hq)
        refine lv_aload_n hx hb dX5_launch_55 rfl (lv_at hl 0 rfl) ?_
        refine f_get (ci := 5) (v := .ref (ad 60)) (C := RX5) (T := TX5) (N := 9) hx hb hts (by decide +kernel) hown hG.1 hI rfl (hMm _ (by omega)) (hM.1) rfl 7 (by decide) (hts (.fieldLink RX5 27 "CoracleRaceModel" "s" "LCoracleRaceModel$State;") (by decide +kernel)) rfl dX5_launch_56 ?_
        refine f_getN (ci := 4) (v := .ref (ad (60 + 1 + 1))) (C := RX4) (T := TX4) (N := 12) hx hb hts (by decide +kernel) hown hG.1 hI rfl (hMm _ (by omega)) (hS.1) rfl 2 (by decide) (hG.2.1 (.fieldLinkNest RX5 52 RX4 "lane" "[I" RX5) (by simp [fNest])) rfl dX5_launch_59 ?_
        refine lv_aload_n hx hb dX5_launch_62 rfl (lv_at hl 0 rfl) ?_
        refine f_get (ci := 5) (v := .int (nI n)) (C := RX5) (T := TX5) (N := 9) hx hb hts (by decide +kernel) hown hG.1 hI rfl (hMm _ (by omega)) (hM.1) rfl 5 (by decide) (hts (.fieldLink RX5 38 "CoracleRaceModel" "boats" "I") (by decide +kernel)) rfl dX5_launch_63 ?_
        refine lv_iload_n hx hb dX5_launch_66 rfl (lv_at hl 1 rfl) ?_
        refine f_iast hx hb hG.1 hI rfl (hMm _ (by omega)) (hS.2 1 (by decide)) (vp_in_nI (by omega) (by omega)) dX5_launch_67 (fun E13 H locs hE14 hn15 hI => ?_)
        have hS := hS.row (j := 1) (by decide) (by rw [nI_clamp (by omega)] at hE14; exact hE14) (fun q hq => hn15 q hq)
        have hM := hM.kept (fun q h1 h2 => hn15 q (by omega))
        have hA := hA.kept (fun q h1 h2 => hn15 q (by omega))
        have hfr : ∀ q : Nat, (q < 50 ∨ 91 ≤ q) → E13 q = E q := fun q hq => (hn15 q (by omega)).trans (hfr q hq)
        refine lv_aload_n hx hb dX5_launch_68 rfl (lv_at hl 0 rfl) ?_
        refine f_get (ci := 5) (v := .ref (ad 60)) (C := RX5) (T := TX5) (N := 9) hx hb hts (by decide +kernel) hown hG.1 hI rfl (hMm _ (by omega)) (hM.1) rfl 7 (by decide) (hts (.fieldLink RX5 27 "CoracleRaceModel" "s" "LCoracleRaceModel$State;") (by decide +kernel)) rfl dX5_launch_69 ?_
        refine f_getN (ci := 4) (v := .ref (ad (60 + 1 + 5))) (C := RX4) (T := TX4) (N := 12) hx hb hts (by decide +kernel) hown hG.1 hI rfl (hMm _ (by omega)) (hS.1) rfl 6 (by decide) (hG.2.1 (.fieldLinkNest RX5 55 RX4 "came" "[I" RX5) (by simp [fNest])) rfl dX5_launch_72 ?_
        refine lv_aload_n hx hb dX5_launch_75 rfl (lv_at hl 0 rfl) ?_
        refine f_get (ci := 5) (v := .int (nI n)) (C := RX5) (T := TX5) (N := 9) hx hb hts (by decide +kernel) hown hG.1 hI rfl (hMm _ (by omega)) (hM.1) rfl 5 (by decide) (hts (.fieldLink RX5 38 "CoracleRaceModel" "boats" "I") (by decide +kernel)) rfl dX5_launch_76 ?_
        refine lv_iconst (v := -1) hx hb dX5_launch_79 (by decide) ?_
        refine f_iast hx hb hG.1 hI rfl (hMm _ (by omega)) (hS.2 5 (by decide)) (vp_in_nI (by omega) (by omega)) dX5_launch_80 (fun E16 H locs hE17 hn18 hI => ?_)
        have hS := hS.row (j := 5) (by decide) (by rw [nI_clamp (by omega)] at hE17; exact hE17) (fun q hq => hn18 q hq)
        have hM := hM.kept (fun q h1 h2 => hn18 q (by omega))
        have hA := hA.kept (fun q h1 h2 => hn18 q (by omega))
        have hfr : ∀ q : Nat, (q < 50 ∨ 91 ≤ q) → E16 q = E q := fun q hq => (hn18 q (by omega)).trans (hfr q hq)
        refine lv_aload_n hx hb dX5_launch_81 rfl (lv_at hl 0 rfl) ?_
        refine f_get (ci := 5) (v := .ref (ad 60)) (C := RX5) (T := TX5) (N := 9) hx hb hts (by decide +kernel) hown hG.1 hI rfl (hMm _ (by omega)) (hM.1) rfl 7 (by decide) (hts (.fieldLink RX5 27 "CoracleRaceModel" "s" "LCoracleRaceModel$State;") (by decide +kernel)) rfl dX5_launch_82 ?_
        refine f_getN (ci := 4) (v := .ref (ad (60 + 1 + 8))) (C := RX4) (T := TX4) (N := 12) hx hb hts (by decide +kernel) hown hG.1 hI rfl (hMm _ (by omega)) (hS.1) rfl 9 (by decide) (hG.2.1 (.fieldLinkNest RX5 58 RX4 "length" "[I" RX5) (by simp [fNest])) rfl dX5_launch_85 ?_
        refine lv_aload_n hx hb dX5_launch_88 rfl (lv_at hl 0 rfl) ?_
        refine f_get (ci := 5) (v := .int (nI n)) (C := RX5) (T := TX5) (N := 9) hx hb hts (by decide +kernel) hown hG.1 hI rfl (hMm _ (by omega)) (hM.1) rfl 5 (by decide) (hts (.fieldLink RX5 38 "CoracleRaceModel" "boats" "I") (by decide +kernel)) rfl dX5_launch_89 ?_
        refine lv_iconst (v := 1) hx hb dX5_launch_92 (by decide) ?_
        refine f_iast hx hb hG.1 hI rfl (hMm _ (by omega)) (hS.2 8 (by decide)) (vp_in_nI (by omega) (by omega)) dX5_launch_93 (fun E19 H locs hE20 hn21 hI => ?_)
        have hS := hS.row (j := 8) (by decide) (by rw [nI_clamp (by omega)] at hE20; exact hE20) (fun q hq => hn21 q hq)
        have hM := hM.kept (fun q h1 h2 => hn21 q (by omega))
        have hA := hA.kept (fun q h1 h2 => hn21 q (by omega))
        have hfr : ∀ q : Nat, (q < 50 ∨ 91 ≤ q) → E19 q = E q := fun q hq => (hn21 q (by omega)).trans (hfr q hq)
        refine lv_aload_n hx hb dX5_launch_94 rfl (lv_at hl 0 rfl) ?_
        refine f_get (ci := 5) (v := .ref (ad 60)) (C := RX5) (T := TX5) (N := 9) hx hb hts (by decide +kernel) hown hG.1 hI rfl (hMm _ (by omega)) (hM.1) rfl 7 (by decide) (hts (.fieldLink RX5 27 "CoracleRaceModel" "s" "LCoracleRaceModel$State;") (by decide +kernel)) rfl dX5_launch_95 ?_
        refine f_getN (ci := 4) (v := .ref (ad (60 + 1 + 9))) (C := RX4) (T := TX4) (N := 12) hx hb hts (by decide +kernel) hown hG.1 hI rfl (hMm _ (by omega)) (hS.1) rfl 10 (by decide) (hG.2.1 (.fieldLinkNest RX5 61 RX4 "strokes" "[I" RX5) (by simp [fNest])) rfl dX5_launch_98 ?_
        refine lv_aload_n hx hb dX5_launch_101 rfl (lv_at hl 0 rfl) ?_
        refine f_get (ci := 5) (v := .int (nI n)) (C := RX5) (T := TX5) (N := 9) hx hb hts (by decide +kernel) hown hG.1 hI rfl (hMm _ (by omega)) (hM.1) rfl 5 (by decide) (hts (.fieldLink RX5 38 "CoracleRaceModel" "boats" "I") (by decide +kernel)) rfl dX5_launch_102 ?_
        refine lv_iconst (v := 3) hx hb dX5_launch_105 (by decide) ?_
        refine f_iast hx hb hG.1 hI rfl (hMm _ (by omega)) (hS.2 9 (by decide)) (vp_in_nI (by omega) (by omega)) dX5_launch_106 (fun E22 H locs hE23 hn24 hI => ?_)
        have hS := hS.row (j := 9) (by decide) (by rw [nI_clamp (by omega)] at hE23; exact hE23) (fun q hq => hn24 q hq)
        have hM := hM.kept (fun q h1 h2 => hn24 q (by omega))
        have hA := hA.kept (fun q h1 h2 => hn24 q (by omega))
        have hfr : ∀ q : Nat, (q < 50 ∨ 91 ≤ q) → E22 q = E q := fun q hq => (hn24 q (by omega)).trans (hfr q hq)
        refine lv_aload_n hx hb dX5_launch_107 rfl (lv_at hl 0 rfl) ?_
        refine lv_dup hx hb dX5_launch_108 rfl ?_
        refine f_get (ci := 5) (v := .int (nI n)) (C := RX5) (T := TX5) (N := 9) hx hb hts (by decide +kernel) hown hG.1 hI rfl (hMm _ (by omega)) (hM.1) rfl 5 (by decide) (hts (.fieldLink RX5 38 "CoracleRaceModel" "boats" "I") (by decide +kernel)) rfl dX5_launch_109 ?_
        refine lv_iconst (v := 1) hx hb dX5_launch_112 (by decide) ?_
        refine lv_iadd hx hb dX5_launch_113 ?_
        refine lv_topi (fun tv etv => ?_)
        have etv : tv = (nI (n + 1)) := etv.trans (nI_1 n)
        subst etv
        refine f_put (ci := 5) (v := .int (nI (n + 1))) (C := RX5) (T := TX5) (N := 9) hx hb hts (by decide +kernel) tyX5 tyX5_ok nmX5 hown hG.1 hI rfl (hMm _ (by omega)) (hM.1) rfl 5 (by decide) (hts (.fieldLink RX5 38 "CoracleRaceModel" "boats" "I") (by decide +kernel)) rfl rfl rfl (Nat.le_of_ble_eq_true rfl) dX5_launch_114 (fun E25 H locs hE26 hn27 hI => ?_)
        have hM := hM.top (th1 := 0) (nw1 := nw) (n1 := (n + 1)) hE26 (fun q hq => hn27 q hq)
        have hS := hS.kept (fun q h1 h2 => hn27 q (by omega))
        have hA := hA.kept (fun q h1 h2 => hn27 q (by omega))
        have hfr : ∀ q : Nat, (q < 50 ∨ 91 ≤ q) → E25 q = E q := fun q hq => (hn27 q (by omega)).trans (hfr q hq)
        refine lv_aload_n hx hb dX5_launch_117 rfl (lv_at hl 0 rfl) ?_
        refine f_get (ci := 5) (v := .int (nI (n + 1))) (C := RX5) (T := TX5) (N := 9) hx hb hts (by decide +kernel) hown hG.1 hI rfl (hMm _ (by omega)) (hM.1) rfl 5 (by decide) (hts (.fieldLink RX5 38 "CoracleRaceModel" "boats" "I") (by decide +kernel)) rfl dX5_launch_118 ?_
        refine lv_iconst (v := 1) hx hb dX5_launch_121 (by decide) ?_
        refine lv_isub hx hb dX5_launch_122 ?_
        have hc : cm_launch n x y = 0 := (if_pos ⟨p_11, p_21⟩).trans (if_neg c_36)
        exact f_reti hQ hx hb hr hlocks hI.2.2 (by omega) (by omega) dX5_launch_123 E25 (fB_of hI) (Or.inl ⟨hc, nI_pred n, ⟨hM, hS, _, _, hTa, hA⟩, hfr⟩)
      · refine lv_aload_n hx hb dX5_launch_39 rfl (lv_at hl 0 rfl) ?_
        refine lv_iconst (v := 2) hx hb dX5_launch_40 (by decide) ?_
        refine f_calli1 (va_runV (As := [.int 2]) (rest := []) ⟨hx, hb, hml, hown, hts⟩ (m_X5_no l (hMm _ (by decide)) hM 2) (cwV 1 hts gX5_launch_X5_no rfl rfl rfl (by decide +kernel) ⟨Nat.le_of_ble_eq_true rfl, Nat.le_of_ble_eq_true rfl⟩) (fPre_ofV hG hI rfl (hMm _ (by omega)) (hM.1) rfl rfl) rfl rfl hl.1 rfl (lv_room (Nat.le_of_ble_eq_true rfl)) dX5_launch_41 ⟨Nat.le_of_ble_eq_true rfl, Nat.le_of_ble_eq_true rfl⟩) hI (fun r28 E29 H locs hp hI => ?_)
        obtain ⟨he, hM, hn9⟩ := hp
        subst he
        have hS := hS.kept (fun q h1 h2 => hn9 q (by omega))
        have hA := hA.kept (fun q h1 h2 => hn9 q (by omega))
        have hfr : ∀ q : Nat, (q < 50 ∨ 91 ≤ q) → E29 q = E q := fun q hq => (hn9 q (by omega)).trans (hfr q hq)
        have hc : cm_launch n x y = 2 := (if_pos ⟨p_11, p_21⟩).trans (if_pos c_36)
        exact f_reti hQ hx hb hr hlocks hI.2.2 (by omega) (by omega) dX5_launch_44 E29 (fB_of hI) (Or.inr ⟨by rw [hc]; decide, rfl, by rw [hc]; exact ⟨hM, hS, _, _, hTa, hA⟩, hfr⟩)
    · have p_21 := bl_f he c_21
      refine lv_aload_n hx hb dX5_launch_24 rfl (lv_at hl 0 rfl) ?_
      refine lv_iconst (v := 1) hx hb dX5_launch_25 (by decide) ?_
      refine f_calli1 (va_runV (As := [.int 1]) (rest := []) ⟨hx, hb, hml, hown, hts⟩ (m_X5_no l (hMm _ (by decide)) hM 1) (cwV 1 hts gX5_launch_X5_no rfl rfl rfl (by decide +kernel) ⟨Nat.le_of_ble_eq_true rfl, Nat.le_of_ble_eq_true rfl⟩) (fPre_ofV hG hI rfl (hMm _ (by omega)) (hM.1) rfl rfl) rfl rfl hl.1 rfl (lv_room (Nat.le_of_ble_eq_true rfl)) dX5_launch_26 ⟨Nat.le_of_ble_eq_true rfl, Nat.le_of_ble_eq_true rfl⟩) hI (fun r30 E31 H locs hp hI => ?_)
      obtain ⟨he, hM, hn9⟩ := hp
      subst he
      have hS := hS.kept (fun q h1 h2 => hn9 q (by omega))
      have hA := hA.kept (fun q h1 h2 => hn9 q (by omega))
      have hfr : ∀ q : Nat, (q < 50 ∨ 91 ≤ q) → E31 q = E q := fun q hq => (hn9 q (by omega)).trans (hfr q hq)
      have hc : cm_launch n x y = 1 := if_neg (fun q => p_21 q.2)
      exact f_reti hQ hx hb hr hlocks hI.2.2 (by omega) (by omega) dX5_launch_29 E31 (fB_of hI) (Or.inr ⟨by rw [hc]; decide, rfl, by rw [hc]; exact ⟨hM, hS, _, _, hTa, hA⟩, hfr⟩)

theorem pat_stop {d : Int32} (hd : 0 ≤ d) : ∃ D : Nat, D < 2 ^ 31 ∧ ∀ k, p_shr d k = nI (D / 10 ^ k) := by
  obtain ⟨D, hD, rfl⟩ := nI_of (i_nlt.mpr hd)
  refine ⟨D, hD, fun k => ?_⟩
  induction k with
  | zero => simp [p_shr]
  | succ k ih =>
    have hk : D / 10 ^ k < 2 ^ 31 := Nat.lt_of_le_of_lt (Nat.div_le_self _ _) hD
    rw [p_shr, ih, Nat.pow_succ, ← Nat.div_div_eq_div_mul]
    exact pk_div hk (by decide) (by decide)
theorem ten_pow : ∀ k, k < 7 → fTen k = nI (10 ^ k) := by decide +kernel
theorem pat_hi {len : Nat} (hl : len ≤ 6) {d : Int32} (hd : 0 ≤ d) : d ≤ fTen len - 1 ↔ p_shr d len = 0 := by
  obtain ⟨D, hD, e⟩ := pat_stop hd
  have e0 : d = nI D := by have := e 0; simpa [p_shr] using this
  have hp : 10 ^ len < 2 ^ 31 := Nat.lt_of_le_of_lt (Nat.pow_le_pow_right (by decide) hl) (by decide)
  have hp0 : 0 < 10 ^ len := Nat.pow_pos (by decide)
  rw [ten_pow len (by omega), e len, e0]
  obtain ⟨m, hm⟩ : ∃ m, 10 ^ len = m + 1 := ⟨10 ^ len - 1, by omega⟩
  rw [hm, nI_pred, nI_leI hD (by omega), ← hm]
  constructor
  · intro h
    rw [Nat.div_eq_of_lt (by omega)]
    rfl
  · intro h
    have h2 : D / 10 ^ len = 0 := by
      have h3 := congrArg Int32.toNatClampNeg h
      rw [nI_clamp (Nat.lt_of_le_of_lt (Nat.div_le_self _ _) hD)] at h3
      exact h3.trans (by decide)
    rcases Nat.div_eq_zero_iff.mp h2 with h4 | h4 <;> omega
theorem pat_end {len i : Nat} {d : Int32} (hd : 0 ≤ d) (h0 : ¬ 0 < p_shr d i) (hs : p_shr d len = 0) (hg : ∀ j, j < i → p_rem (p_shr d j) 10 ≤ 3) : p_pat len d := by
  refine ⟨hd, fun j hj => ?_, hs⟩
  rcases Nat.lt_or_ge j i with q | q
  · exact hg j q
  · obtain ⟨D, hD, e⟩ := pat_stop hd
    have hb : ∀ k, D / 10 ^ k < 2 ^ 31 := fun k => Nat.lt_of_le_of_lt (Nat.div_le_self _ _) hD
    have hi : D / 10 ^ i = 0 := by
      rw [e i] at h0
      rcases Nat.eq_zero_or_pos (D / 10 ^ i) with z | z
      · exact z
      · exact absurd ((nI_ltI (by decide) (hb i) (a := 0)).mpr z) h0
    have hj0 : D / 10 ^ j = 0 := by
      have h8 : 10 ^ i ≤ 10 ^ j := Nat.pow_le_pow_right (by decide) q
      have h9 := Nat.div_le_div_left h8 (Nat.pow_pos (by decide : 0 < 10) : 0 < 10 ^ i) (a := D)
      rw [hi] at h9
      exact Nat.le_zero.mp h9
    rw [e j, hj0]
    decide
theorem pat_bad {len i : Nat} {d : Int32} (hd : 0 ≤ d) (h3 : 3 < p_rem (p_shr d i) 10) : ¬ p_pat len d := fun q => by
  rcases Nat.lt_or_ge i len with h | h
  · exact i_nle.mpr h3 (q.2.1 i h)
  · obtain ⟨D, hD, e⟩ := pat_stop hd
    have hz := q.2.2
    rw [e len] at hz
    have h2 : D / 10 ^ len = 0 := by
      have h3 := congrArg Int32.toNatClampNeg hz
      rw [nI_clamp (Nat.lt_of_le_of_lt (Nat.div_le_self _ _) hD)] at h3
      exact h3.trans (by decide)
    have hj0 : D / 10 ^ i = 0 := by
      have h8 : 10 ^ len ≤ 10 ^ i := Nat.pow_le_pow_right (by decide) h
      have h9 := Nat.div_le_div_left h8 (Nat.pow_pos (by decide : 0 < 10) : 0 < 10 ^ len) (a := D)
      rw [h2] at h9
      exact Nat.le_zero.mp h9
    rw [e i, hj0] at h3
    exact absurd h3 (by decide)
theorem shr_lt {i : Nat} {d : Int32} (hd : 0 ≤ d) (h : 0 < p_shr d i) : i < 10 := by
  obtain ⟨D, hD, e⟩ := pat_stop hd
  rcases Nat.lt_or_ge i 10 with q | q
  · exact q
  · rw [e i] at h
    have h1 : D / 10 ^ i = 0 := by
      have : 10 ^ 10 ≤ 10 ^ i := Nat.pow_le_pow_right (by decide) q
      exact Nat.div_eq_of_lt (by omega)
    rw [h1] at h
    exact absurd h (by decide)
set_option maxHeartbeats 4000000 in
set_option maxRecDepth 100000 in
theorem m_X5_isPattern (l : Launch) {D : va_G} {cI cJ cB : ClassId} {t0 z : Nat} {tx ad : Nat → Nat} {L : List Nat} {E : Nat → va_E} {len : Nat} (hl6 : len ≤ 6) (d : Int32) : Met l yX5_isPattern wsX5_isPattern ({ frames := 1, cells := 0, slots := 0, locals := 22 } : Room) (va_Pc [.int (nI len), .int d] (fPre D cI cJ cB t0 z tx ad L E)) (va_Qi (fun (r : Int32) (E1 : Nat → va_E) => r = (if p_pat len d then 1 else 0) ∧ E1 = E) (fB D z ad L) (fA z)) 0 0 (fA z) := by
  refine f_ofW (cc := cX5_isPattern) (maxL := 3) (ret := some .boolean) (by decide) rfl (Nat.le_of_ble_eq_true rfl) ?_
  intro pr e s m args below meth c Q hx hb hr hml hts hown hlocks hin hG H locs hI hQ ls hl
  have hl : lv_has ls 3 [(0, .int (nI len)), (1, .int d)] := hl
  refine lv_iload_n hx hb dX5_isPattern_0 rfl (lv_at hl 1 rfl) ?_
  refine lv_iconst (v := 0) hx hb dX5_isPattern_1 (by decide) ?_
  refine va_gets hx hb hG.2.2.1 hI.2.2 hown (hts (.fieldLink RX5 64 "CoracleRaceModel" "TENS" "[I") (by decide +kernel)) (fun _ h9 => h9) dX5_isPattern_2 ?_
  refine lv_iload_n hx hb dX5_isPattern_5 rfl (lv_at hl 0 rfl) ?_
  refine f_ten hx hb hG hI.2.2 (vp_in_nI (by omega) (by omega)) dX5_isPattern_6 ?_
  refine lv_topi (fun tv etv => ?_)
  have etv : tv = (fTen len) := etv.trans (by rw [nI_clamp (by omega)])
  subst etv
  refine lv_iconst (v := 1) hx hb dX5_isPattern_7 (by decide) ?_
  refine lv_isub hx hb dX5_isPattern_8 ?_
  refine f_calli1 (va_runS (As := [.int d, .int 0, .int ((fTen len) - 1)]) (rest := []) ⟨hx, hb, hml, hown, hts⟩ (m_X5_isFrom l d 0 ((fTen len) - 1)) (va_cwS 3 hts gX5_isPattern_X5_isFrom rfl rfl rfl (by decide +kernel) ⟨Nat.le_of_ble_eq_true rfl, Nat.le_of_ble_eq_true rfl⟩) (fPre_of hG hI) rfl rfl hl.1 rfl (lv_room (Nat.le_of_ble_eq_true rfl)) dX5_isPattern_9 ⟨Nat.le_of_ble_eq_true rfl, Nat.le_of_ble_eq_true rfl⟩) hI (fun r1 E2 H locs hp hI => ?_)
  obtain ⟨he, hq⟩ := hp
  rw [hq] at hI
  refine lv_if_ne (tgt := 17) hx hb dX5_isPattern_12 (by decide) (fun c_12 => ?_) (fun c_12 => ?_)
  · have p_12 := bl_t he c_12
    refine lv_iload_n hx hb dX5_isPattern_17 rfl (lv_at hl 1 rfl) ?_
    refine lv_istore_n (lv' := [(2, .int d), (0, .int (nI len)), (1, .int d)]) hx hb dX5_isPattern_18 rfl hl (by decide) rfl (fun ls hl => ?_)
    have K : ∀ (k i : Nat), i ≤ 10 → 10 + 1 ≤ i + k → (∀ j, j < i → p_rem (p_shr d j) 10 ≤ 3) → ∀ (H : Heap) (locs : List Loc) (ls : Array Slot), fI D (fA z) s.heap ad L E H locs → lv_has ls 3 [(0, .int (nI len)), (1, .int d), (2, .int (p_shr d i))] → W pr l e ({ frames := 1, cells := 0, slots := 0, locals := 22 } : Room) s m args below meth c H locs 0 0 Q (F0 m 19 ls []) := by
      intro k
      induction k with
      | zero => intro i h1 h2; exact absurd h2 (by omega)
      | succ k ih =>
        intro i hi1 hi2 hv H locs ls hI hl
        refine lv_iload_n hx hb dX5_isPattern_19 rfl (lv_at hl 2 rfl) ?_
        refine lv_if_le (tgt := 41) hx hb dX5_isPattern_20 (by decide) (fun c_20 => ?_) (fun c_20 => ?_)
        · have n_20 := i_nlt.mpr c_20
          refine lv_iconst (v := 1) hx hb dX5_isPattern_41 (by decide) ?_
          exact f_retz hQ hx hb hr hlocks hI.2.2 (by omega) (by omega) dX5_isPattern_42 rfl E (fB_of hI) (⟨(if_pos (pat_end p_12.1 (i_nlt.mpr c_20) ((pat_hi hl6 p_12.1).mp p_12.2) hv)).symm, rfl⟩)
        · have n_20 := c_20
          have c_20 := i_nle.mp n_20
          refine lv_iload_n hx hb dX5_isPattern_23 rfl (lv_at hl 2 rfl) ?_
          refine lv_bipush (v := 10) hx hb dX5_isPattern_24 (by decide) ?_
          refine lv_irem hx hb dX5_isPattern_26 (by decide) ?_
          refine lv_topi (fun tv etv => ?_)
          have etv : tv = (p_rem (p_shr d i) 10) := etv.trans (rfl)
          subst etv
          refine lv_iconst (v := 3) hx hb dX5_isPattern_27 (by decide) ?_
          refine lv_icmp_le (tgt := 33) hx hb dX5_isPattern_28 (by decide) (fun c_28 => ?_) (fun c_28 => ?_)
          · have n_28 := i_nlt.mpr c_28
            have h10 := shr_lt p_12.1 c_20
            refine lv_iload_n hx hb dX5_isPattern_33 rfl (lv_at hl 2 rfl) ?_
            refine lv_bipush (v := 10) hx hb dX5_isPattern_34 (by decide) ?_
            refine lv_idiv hx hb dX5_isPattern_36 (by decide) ?_
            refine lv_istore_n (lv' := [(2, .int ((p_shr d i) / 10)), (0, .int (nI len)), (1, .int d)]) hx hb dX5_isPattern_37 rfl hl (by decide) rfl (fun ls hl => ?_)
            refine lv_goto (tgt := 19) hx hb dX5_isPattern_38 (by decide) ?_
            refine ih (i + 1) (by omega) (by omega) (fun j hj => (Nat.lt_or_ge j i).elim (fun q => hv j q) (fun q => (show i = j by omega) ▸ c_28)) H locs ls hI ?_
            exact lv_sub hl [1, 2, 0] rfl
          · have n_28 := c_28
            have c_28 := i_nle.mp n_28
            refine lv_iconst (v := 0) hx hb dX5_isPattern_31 (by decide) ?_
            exact f_retz hQ hx hb hr hlocks hI.2.2 (by omega) (by omega) dX5_isPattern_32 rfl E (fB_of hI) (⟨(if_neg (pat_bad p_12.1 c_28)).symm, rfl⟩)
    exact K (10 + 1) 0 (Nat.zero_le _) (by omega) (fun j hj => absurd hj (Nat.not_lt_zero j)) H locs ls hI (lv_sub hl [1, 2, 0] rfl)
  · have p_12 := bl_f he c_12
    refine lv_iconst (v := 0) hx hb dX5_isPattern_15 (by decide) ?_
    exact f_retz hQ hx hb hr hlocks hI.2.2 (by omega) (by omega) dX5_isPattern_16 rfl E (fB_of hI) (⟨(if_neg (fun q => p_12 ⟨q.1, (pat_hi hl6 q.1).mpr q.2.2⟩)).symm, rfl⟩)
