/-! ===== the reference: its object 50, its rows 51 .. 54, its states from 60 and from 80 on; S j i: row j (place, lane, heads, soaked, fouls, came, spins, stops, length, strokes) at the boat i ===== -/
abbrev mE (ad : Nat → Nat) (th : Int32) (nw n : Nat) : va_E := .inr (5, [.int th, .ref (ad 51), .int (nI nw), .ref (ad 52), .ref (ad 53), .int (nI n), .ref (ad 54), .ref (ad 60), .ref (ad 80)])
abbrev sE (ad : Nat → Nat) (sb T : Nat) : va_E := .inr (4, [.int (nI T), .ref (ad (sb + 1 + 0)), .ref (ad (sb + 1 + 1)), .ref (ad (sb + 1 + 2)), .ref (ad (sb + 1 + 3)), .ref (ad (sb + 1 + 4)), .ref (ad (sb + 1 + 5)), .ref (ad (sb + 1 + 6)), .ref (ad (sb + 1 + 7)), .ref (ad (sb + 1 + 8)), .ref (ad (sb + 1 + 9)), .ref (ad 50)])
def st_at (cI : ClassId) (ad : Nat → Nat) (E : Nat → va_E) (sb T : Nat) (S : Nat → Nat → Int32) : Prop := E sb = sE ad sb T ∧ ∀ j, j < 10 → E (sb + 1 + j) = .inl (cI, 6, .inl (S j))
def m_at (cI : ClassId) (ad : Nat → Nat) (E : Nat → va_E) (th : Int32) (w p g : Nat → Int32) (nw n : Nat) (str : Nat → Int32) : Prop :=
  E 50 = mE ad th nw n ∧ E 51 = .inl (cI, 5, .inl w) ∧ E 52 = .inl (cI, 6, .inl p) ∧ E 53 = .inl (cI, 6, .inl g) ∧ E 54 = .inl (cI, 6, .inl str)
theorem st_at.kept {cI : ClassId} {ad : Nat → Nat} {E E1 : Nat → va_E} {sb T : Nat} {S : Nat → Nat → Int32} (h : st_at cI ad E sb T S) (hk : ∀ q, sb ≤ q → q < sb + 11 → E1 q = E q) : st_at cI ad E1 sb T S :=
  ⟨(hk _ (by omega) (by omega)).trans h.1, fun j hj => (hk _ (by omega) (by omega)).trans (h.2 j hj)⟩
theorem m_at.kept {cI : ClassId} {ad : Nat → Nat} {E E1 : Nat → va_E} {th : Int32} {w p g : Nat → Int32} {nw n : Nat} {str : Nat → Int32} (h : m_at cI ad E th w p g nw n str) (hk : ∀ q, 50 ≤ q → q < 55 → E1 q = E q) : m_at cI ad E1 th w p g nw n str := by
  obtain ⟨h1, h2, h3, h4, h5⟩ := h
  exact ⟨(hk _ (by omega) (by omega)).trans h1, (hk _ (by omega) (by omega)).trans h2, (hk _ (by omega) (by omega)).trans h3, (hk _ (by omega) (by omega)).trans h4, (hk _ (by omega) (by omega)).trans h5⟩
/-- one row changed -/
theorem st_at.row {cI : ClassId} {ad : Nat → Nat} {E E1 : Nat → va_E} {sb T : Nat} {S : Nat → Nat → Int32} (h : st_at cI ad E sb T S) {j : Nat} (hj : j < 10) {f : Nat → Int32} (h1 : E1 (sb + 1 + j) = .inl (cI, 6, .inl f)) (hk : ∀ q, q ≠ sb + 1 + j → E1 q = E q) : st_at cI ad E1 sb T (va_up S j f) := by
  refine ⟨(hk _ (by omega)).trans h.1, fun i hi => ?_⟩
  by_cases hij : i = j
  · subst hij; rw [va_up_self]; exact h1
  · rw [va_up_ne _ _ hij]; exact (hk _ (by omega)).trans (h.2 i hi)
theorem st_at.tick {cI : ClassId} {ad : Nat → Nat} {E E1 : Nat → va_E} {sb T T1 : Nat} {S : Nat → Nat → Int32} (h : st_at cI ad E sb T S) (h1 : E1 sb = sE ad sb T1) (hk : ∀ q, q ≠ sb → E1 q = E q) : st_at cI ad E1 sb T1 S :=
  ⟨h1, fun i hi => (hk _ (by omega)).trans (h.2 i hi)⟩
theorem st_at.eq {cI : ClassId} {ad : Nat → Nat} {E : Nat → va_E} {sb T : Nat} {S S1 : Nat → Nat → Int32} (h : st_at cI ad E sb T S) (hs : ∀ j, j < 10 → S j = S1 j) : st_at cI ad E sb T S1 :=
  ⟨h.1, fun j hj => by rw [← hs j hj]; exact h.2 j hj⟩
/-- the boat i as the class has it -/
def mb (S : Nat → Nat → Int32) (str : Nat → Int32) (i : Nat) : Nat → Int32 := fun k => match k with
  | 1 => S 8 i
  | 2 => str i
  | 3 => S 0 i
  | 4 => S 1 i
  | 5 => S 2 i
  | 6 => S 3 i
  | 7 => S 4 i
  | 8 => if S 5 i = -1 then 0 else 1
  | 9 => if S 5 i = -1 then 0 else S 5 i
  | 10 => S 6 i
  | 11 => S 7 i
  | _ => 0
/-- the rows with the boat i's values taken from c -/
def su (S : Nat → Nat → Int32) (i : Nat) (c : Nat → Int32) : Nat → Nat → Int32 := fun j => match j with
  | 0 => upd (S 0) i (c 3)
  | 1 => upd (S 1) i (c 4)
  | 2 => upd (S 2) i (c 5)
  | 3 => upd (S 3) i (c 6)
  | 4 => upd (S 4) i (c 7)
  | 5 => upd (S 5) i (if c 8 = 0 then -1 else c 9)
  | 6 => upd (S 6) i (c 10)
  | 7 => upd (S 7) i (c 11)
  | j => S j
/-- c is the boat i but for what a tick changes -/
def bk (S : Nat → Nat → Int32) (str : Nat → Int32) (i : Nat) (c : Nat → Int32) : Prop := ∀ k, k ≠ 3 → k ≠ 4 → k ≠ 5 → k ≠ 6 → k ≠ 7 → k ≠ 10 → k ≠ 11 → c k = mb S str i k
theorem bk_rf (S : Nat → Nat → Int32) (str : Nat → Int32) (i : Nat) : bk S str i (mb S str i) := fun _ _ _ _ _ _ _ _ => rfl
theorem su_mb (S : Nat → Nat → Int32) (str : Nat → Int32) (i : Nat) : su S i (mb S str i) = S := by
  funext j
  have h9 : ∀ f : Nat → Int32, upd f i (f i) = f := fun f => fa_upd_same rfl
  have h5 : (if mb S str i 8 = 0 then (-1 : Int32) else mb S str i 9) = S 5 i := by
    show (if (if S 5 i = -1 then (0 : Int32) else 1) = 0 then (-1 : Int32) else (if S 5 i = -1 then 0 else S 5 i)) = S 5 i
    by_cases h : S 5 i = -1
    · simp [h]
    · simp [h]
  match j with
  | 0 => exact h9 _
  | 1 => exact h9 _
  | 2 => exact h9 _
  | 3 => exact h9 _
  | 4 => exact h9 _
  | 5 =>
    show upd (S 5) i _ = S 5
    rw [h5]
    exact h9 _
  | 6 => exact h9 _
  | 7 => exact h9 _
  | j + 8 => rfl
theorem mb_su {S : Nat → Nat → Int32} {str : Nat → Int32} {i : Nat} {c : Nat → Int32} (h : bk S str i c) : mb (su S i c) str i = c := by
  have h8 : c 8 = if S 5 i = -1 then 0 else 1 := h 8 (by decide) (by decide) (by decide) (by decide) (by decide) (by decide) (by decide)
  have h9 : c 9 = if S 5 i = -1 then 0 else S 5 i := h 9 (by decide) (by decide) (by decide) (by decide) (by decide) (by decide) (by decide)
  have e5 : su S i c 5 i = if c 8 = 0 then -1 else c 9 := pk_us
  funext k
  match k with
  | 0 => exact (h 0 (by decide) (by decide) (by decide) (by decide) (by decide) (by decide) (by decide)).symm
  | 1 => exact (h 1 (by decide) (by decide) (by decide) (by decide) (by decide) (by decide) (by decide)).symm
  | 2 => exact (h 2 (by decide) (by decide) (by decide) (by decide) (by decide) (by decide) (by decide)).symm
  | 3 => exact pk_us
  | 4 => exact pk_us
  | 5 => exact pk_us
  | 6 => exact pk_us
  | 7 => exact pk_us
  | 8 =>
    show (if su S i c 5 i = -1 then (0 : Int32) else 1) = c 8
    rw [e5, h8, h9]
    by_cases h : S 5 i = -1 <;> simp [h]
  | 9 =>
    show (if su S i c 5 i = -1 then (0 : Int32) else su S i c 5 i) = c 9
    rw [e5, h8, h9]
    by_cases h : S 5 i = -1 <;> simp [h]
  | 10 => exact pk_us
  | 11 => exact pk_us
  | k + 12 => exact (h (k + 12) (by omega) (by omega) (by omega) (by omega) (by omega) (by omega) (by omega)).symm
theorem su_su (S : Nat → Nat → Int32) (i : Nat) (c d : Nat → Int32) : su (su S i c) i d = su S i d := by
  funext j
  match j with
  | 0 => exact fa_upd_twice _ _ _ _
  | 1 => exact fa_upd_twice _ _ _ _
  | 2 => exact fa_upd_twice _ _ _ _
  | 3 => exact fa_upd_twice _ _ _ _
  | 4 => exact fa_upd_twice _ _ _ _
  | 5 => exact fa_upd_twice _ _ _ _
  | 6 => exact fa_upd_twice _ _ _ _
  | 7 => exact fa_upd_twice _ _ _ _
  | j + 8 => rfl
/-- a place of c changed: the row j of su; kj tells which place of c -/
def sk (j : Nat) : Nat := if j < 5 then j + 3 else j + 4
theorem su_put (S : Nat → Nat → Int32) (i : Nat) (c : Nat → Int32) (v : Int32) {j : Nat} (h : j < 5 ∨ j = 6 ∨ j = 7) : va_up (su S i c) j (upd (su S i c j) i v) = su S i (va_up c (sk j) v) := by
  funext q
  rcases (show j = 0 ∨ j = 1 ∨ j = 2 ∨ j = 3 ∨ j = 4 ∨ j = 6 ∨ j = 7 by omega) with rfl | rfl | rfl | rfl | rfl | rfl | rfl <;>
    (match q with
      | 0 => first | rfl | exact fa_upd_twice _ _ _ _
      | 1 => first | rfl | exact fa_upd_twice _ _ _ _
      | 2 => first | rfl | exact fa_upd_twice _ _ _ _
      | 3 => first | rfl | exact fa_upd_twice _ _ _ _
      | 4 => first | rfl | exact fa_upd_twice _ _ _ _
      | 5 => rfl
      | 6 => first | rfl | exact fa_upd_twice _ _ _ _
      | 7 => first | rfl | exact fa_upd_twice _ _ _ _
      | q + 8 => rw [va_up_ne _ _ (by omega)]; rfl)
theorem bk_up {S : Nat → Nat → Int32} {str : Nat → Int32} {i : Nat} {c : Nat → Int32} (h : bk S str i c) {k : Nat} (v : Int32) (hk : k = 3 ∨ k = 4 ∨ k = 5 ∨ k = 6 ∨ k = 7 ∨ k = 10 ∨ k = 11) : bk S str i (va_up c k v) := fun q h3 h4 h5 h6 h7 h10 h11 => by
  rw [va_up_ne _ _ (by omega)]
  exact h q h3 h4 h5 h6 h7 h10 h11
theorem min_comm (x y : Int32) : (if x < y then x else y) = if y < x then y else x := by
  by_cases h1 : x < y
  · rw [if_pos h1]
    by_cases h2 : y < x
    · rw [fa_lt] at h1 h2; omega
    · rw [if_neg h2]
  · rw [if_neg h1]
    by_cases h2 : y < x
    · rw [if_pos h2]
    · rw [if_neg h2]
      rw [fa_lt] at h1 h2
      rw [fa_eq]
      omega
/-- the strokes of a pattern, as the reference reads them -/
def m_row (st len : Int32) : Nat → Int32 := fun j => p_rem (st / fTen (len - 1 - nI j).toNatClampNeg) 10
theorem fTen_ne (k : Nat) : ¬ fTen k = 0 := by
  unfold fTen
  split <;> decide
