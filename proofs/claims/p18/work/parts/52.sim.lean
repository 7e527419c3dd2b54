/-! ===== the race by hand: its object at 50, water 51, weirs 52, the rows of boats 53 and of patterns 54, the boat i at 60 + i, its pattern at 70 + i ===== -/
def row_at (ad : Nat → Nat) (k0 n : Nat) : Nat → Option Nat := fun i => if i < n then some (ad (k0 + i)) else none
theorem row_at_at {ad : Nat → Nat} {k0 n i : Nat} (h : i < n) : va_rf (row_at ad k0 n i) = .ref (ad (k0 + i)) := by
  unfold row_at
  rw [if_pos h]
  rfl
theorem row_at_ad {ad ad1 : Nat → Nat} {k0 n : Nat} (h : ∀ i, i < n → ad1 (k0 + i) = ad (k0 + i)) : row_at ad1 k0 n = row_at ad k0 n := by
  funext i
  unfold row_at
  by_cases hi : i < n
  · rw [if_pos hi, if_pos hi, h i hi]
  · rw [if_neg hi, if_neg hi]
abbrev sE (ad : Nat → Nat) (T nw : Nat) : va_E := .inr (4, [.int (nI T), .ref (ad 51), .ref (ad 52), .int (nI nw), .ref (ad 53), .ref (ad 54)])
def bl_len (b : Nat → Int32) : Nat := (b 1).toNatClampNeg
def s_at (cI cJ : ClassId) (ad : Nat → Nat) (E : Nat → va_E) (w p g : Nat → Int32) (nw n T : Nat) (B F : Nat → Nat → Int32) : Prop :=
  E 50 = sE ad T nw ∧ E 51 = .inl (cI, 5, .inl w) ∧ E 52 = .inl (cI, 201, .inl (vW p g nw)) ∧ E 53 = .inl (cJ, n, .inr (.inr (.inr (.inr (row_at ad 60 n))))) ∧ E 54 = .inl (cJ, n, .inr (.inr (.inr (.inr (row_at ad 70 n))))) ∧
  ∀ i, i < n → E (60 + i) = .inl (cI, 9, .inl (sB (B i))) ∧ E (70 + i) = .inl (cI, bl_len (B i), .inl (F i))
theorem s_at.kept {cI cJ : ClassId} {ad : Nat → Nat} {E E1 : Nat → va_E} {w p g : Nat → Int32} {nw n T : Nat} {B F : Nat → Nat → Int32} (h : s_at cI cJ ad E w p g nw n T B F) (hn : n ≤ 6) (hk : ∀ q : Nat, 50 ≤ q → q < 80 → E1 q = E q) : s_at cI cJ ad E1 w p g nw n T B F := by
  obtain ⟨h0, h1, h2, h3, h4, h5⟩ := h
  exact ⟨(hk _ (by omega) (by omega)).trans h0, (hk _ (by omega) (by omega)).trans h1, (hk _ (by omega) (by omega)).trans h2, (hk _ (by omega) (by omega)).trans h3, (hk _ (by omega) (by omega)).trans h4, fun i hi => ⟨(hk _ (by omega) (by omega)).trans (h5 i hi).1, (hk _ (by omega) (by omega)).trans (h5 i hi).2⟩⟩
/-- one boat changed -/
theorem s_at.boat {cI cJ : ClassId} {ad : Nat → Nat} {E E1 : Nat → va_E} {w p g : Nat → Int32} {nw n T : Nat} {B F : Nat → Nat → Int32} (h : s_at cI cJ ad E w p g nw n T B F) (hn : n ≤ 6) {i : Nat} (hi : i < n) {b : Nat → Int32} (hb : E1 (60 + i) = .inl (cI, 9, .inl (sB b))) (h1 : b 1 = B i 1) (hk : ∀ q, q ≠ 60 + i → E1 q = E q) : s_at cI cJ ad E1 w p g nw n T (va_up B i b) F := by
  obtain ⟨k0, k1, k2, k3, k4, k5⟩ := h
  refine ⟨(hk _ (by omega)).trans k0, (hk _ (by omega)).trans k1, (hk _ (by omega)).trans k2, (hk _ (by omega)).trans k3, (hk _ (by omega)).trans k4, fun j hj => ?_⟩
  by_cases hji : j = i
  · subst hji
    rw [va_up_self]
    refine ⟨hb, (hk _ (by omega)).trans ?_⟩
    rw [(k5 j hj).2]
    unfold bl_len
    rw [h1]
  · rw [va_up_ne _ _ hji]
    exact ⟨(hk _ (by omega)).trans (k5 j hj).1, (hk _ (by omega)).trans (k5 j hj).2⟩
theorem s_at.tick {cI cJ : ClassId} {ad : Nat → Nat} {E E1 : Nat → va_E} {w p g : Nat → Int32} {nw n T T1 : Nat} {B F : Nat → Nat → Int32} (h : s_at cI cJ ad E w p g nw n T B F) (h0 : E1 50 = sE ad T1 nw) (hn : n ≤ 6) (hk : ∀ q, q ≠ 50 → E1 q = E q) : s_at cI cJ ad E1 w p g nw n T1 B F := by
  obtain ⟨-, h1, h2, h3, h4, h5⟩ := h
  exact ⟨h0, (hk _ (by omega)).trans h1, (hk _ (by omega)).trans h2, (hk _ (by omega)).trans h3, (hk _ (by omega)).trans h4, fun i hi => ⟨(hk _ (by omega)).trans (h5 i hi).1, (hk _ (by omega)).trans (h5 i hi).2⟩⟩
theorem s_at.ad {cI cJ : ClassId} {ad ad1 : Nat → Nat} {E : Nat → va_E} {w p g : Nat → Int32} {nw n T : Nat} {B F : Nat → Nat → Int32} (h : s_at cI cJ ad E w p g nw n T B F) (hn : n ≤ 6) (h1 : ∀ q, 50 ≤ q → q < 80 → ad1 q = ad q) : s_at cI cJ ad1 E w p g nw n T B F := by
  obtain ⟨k0, k1, k2, k3, k4, k5⟩ := h
  refine ⟨?_, k1, k2, ?_, ?_, k5⟩
  · unfold sE
    rw [h1 51 (by omega) (by omega), h1 52 (by omega) (by omega), h1 53 (by omega) (by omega), h1 54 (by omega) (by omega)]
    exact k0
  · rw [row_at_ad (fun i hi => h1 _ (by omega) (by omega))]; exact k3
  · rw [row_at_ad (fun i hi => h1 _ (by omega) (by omega))]; exact k4
theorem pw_inj {l : List Nat} (h : l.Pairwise (fun a b => a < b)) {i j k : Nat} (hi : l[i]? = some k) (hj : l[j]? = some k) : i = j := by
  obtain ⟨h1, e1⟩ := List.getElem?_eq_some_iff.mp hi
  obtain ⟨h2, e2⟩ := List.getElem?_eq_some_iff.mp hj
  rw [List.pairwise_iff_getElem] at h
  rcases Nat.lt_trichotomy i j with q | q | q
  · have := h i j h1 h2 q
    omega
  · exact q
  · have := h j i h2 h1 q
    omega
/-- the world by other indices, or by some of them -/
theorem fI_ren {D : va_G} {A : Nat → Prop} {H0 H : Heap} {locs : List Loc} {ad ad1 : Nat → Nat} {L L1 : List Nat} {E E1 : Nat → va_E} (hI : fI D A H0 ad L E H locs) (r : Nat → Nat) (hn : L1.Pairwise (fun a b => a < b)) (h : ∀ k, k ∈ L1 → r k ∈ L ∧ ad1 k = ad (r k) ∧ E1 k = E (r k)) (hr : ∀ a, a ∈ L1 → ∀ b, b ∈ L1 → r a = r b → a = b) : fI D A H0 ad1 L1 E1 H locs := by
  have key : ∀ (i : Nat) (q : Nat × va_E), (fW L1 ad1 E1)[i]? = some q → ∃ (k j : Nat), L1[i]? = some k ∧ k ∈ L1 ∧ L[j]? = some (r k) ∧ (fW L ad E)[j]? = some q := by
    intro i q hq
    simp only [fW, List.getElem?_map] at hq
    cases hb : L1[i]? with
    | none => rw [hb] at hq; cases hq
    | some k =>
      rw [hb] at hq
      cases hq
      have hk : k ∈ L1 := List.mem_of_getElem? hb
      obtain ⟨g1, g2, g3⟩ := h k hk
      obtain ⟨j, hj⟩ := List.getElem?_of_mem g1
      refine ⟨k, j, rfl, hk, hj, ?_⟩
      show (fW L ad E)[j]? = some (ad1 k, E1 k)
      rw [g2, g3]
      exact fW_at hj
  refine ⟨fun i q hq => ?_, ⟨fun i j x y hi hj hxy => ?_, fun i q hq => ?_⟩, hI.2.2⟩
  · obtain ⟨k, j, -, -, -, h4⟩ := key i q hq
    exact hI.1 j q h4
  · obtain ⟨k, i2, a1, a2, a3, a4⟩ := key i x hi
    obtain ⟨k', j2, b1, b2, b3, b4⟩ := key j y hj
    have e : i2 = j2 := hI.2.1.1 i2 j2 x y a4 b4 hxy
    subst e
    have e2 : r k = r k' := Option.some.inj (a3.symm.trans b3)
    have e3 := hr k a2 k' b2 e2
    subst e3
    exact pw_inj hn a1 b1
  · obtain ⟨k, j, -, -, -, h4⟩ := key i q hq
    exact hI.2.1.2 j q h4
/-- the indices of the law's world with n boats -/
def fLS (n : Nat) : List Nat := (List.range 80).filter (fun k => decide (k < 5 ∨ (10 ≤ k ∧ k < 24) ∨ (30 ≤ k ∧ k < 44) ∨ (50 ≤ k ∧ k < 55) ∨ (60 ≤ k ∧ k < 60 + n) ∨ (70 ≤ k ∧ k < 70 + n)))
theorem fLS_mem {n k : Nat} : k ∈ fLS n ↔ k < 80 ∧ (k < 5 ∨ (10 ≤ k ∧ k < 24) ∨ (30 ≤ k ∧ k < 44) ∨ (50 ≤ k ∧ k < 55) ∨ (60 ≤ k ∧ k < 60 + n) ∨ (70 ≤ k ∧ k < 70 + n)) := by
  unfold fLS
  rw [List.mem_filter, List.mem_range, decide_eq_true_iff]
theorem fLS_pw (n : Nat) : (fLS n).Pairwise (fun a b => a < b) := List.Pairwise.filter _ List.pairwise_lt_range
/-- an entry of the world told by another function, the same below its length -/
theorem fI_arr2 {D : va_G} {A : Nat → Prop} {H0 H : Heap} {locs : List Loc} {ad : Nat → Nat} {L : List Nat} {E : Nat → va_E} (hI : fI D A H0 ad L E H locs) {k n : Nat} {cI : ClassId} {f g : Nat → Int32} (he : E k = .inl (cI, n, .inl g)) (h : ∀ j, j < n → g j = f j) : fI D A H0 ad L (va_up E k (.inl (cI, n, .inl f))) H locs := by
  refine ⟨fun i q hi => ?_, fW_addr hI.2.1, hI.2.2⟩
  simp only [fW, List.getElem?_map] at hi
  cases hb : L[i]? with
  | none => rw [hb] at hi; cases hi
  | some b =>
    rw [hb] at hi
    cases hi
    have h1 := hI.1 i (ad b, E b) (fW_at hb)
    show va_at D vwCl (ad b, va_up E k (.inl (cI, n, .inl f)) b) H
    by_cases hbk : b = k
    · subst hbk
      rw [he] at h1
      rw [va_up_self]
      show H[ad b]? = some (vp_cell cI (n, .inl f))
      rw [← arr_same h]
      exact h1
    · rw [va_up_ne _ _ hbk]
      exact h1
theorem tin_lt {b : Nat → Int32} (h9 : ¬ b 8 = 0 → 0 ≤ b 9) : (if b 8 = 0 then (-1 : Int32) else b 9) < 0 ↔ b 8 = 0 := by
  by_cases h : b 8 = 0
  · rw [if_pos h]; exact ⟨fun _ => h, fun _ => by decide⟩
  · rw [if_neg h]; exact ⟨fun q => absurd q (i_nlt.mpr (h9 h)), fun q => absurd q h⟩
theorem rem_in {T Ln : Nat} (hT : T < 2 ^ 31) (h0 : 0 < Ln) (h6 : Ln ≤ 6) : vp_in (nI T - nI T / nI Ln * nI Ln) Ln := by
  rw [pk_rem hT h0 (by omega)]
  have := Nat.mod_lt T h0
  exact vp_in_nI this (by omega)
theorem bl_len_1 {b : Nat → Int32} (h : okb b) : b 1 = nI (bl_len b) ∧ 0 < bl_len b ∧ bl_len b ≤ 6 := okb_len h
theorem stk_K {b f : Nat → Int32} {T : Nat} (h : okb b) : f (nI T - nI T / nI (bl_len b) * nI (bl_len b)).toNatClampNeg = p_stk b f (nI T) := by
  unfold p_stk
  rw [if_neg (fun q => q.elim (fun a => i_nlt.mpr h.1.1 a) (fun a => i_nlt.mpr h.1.2 a)), ← (bl_len_1 h).1]
  rfl
theorem adv_walk {w p g : Nat → Int32} {nw P W k : Nat} {b : Nat → Int32} {f : Int32} (hv : okv w p g nw) (hl : p_lane (b 4)) (hP : b 3 = nI P) (hW : p_way w b f = nI W) (hW15 : W < 15) (h200 : P + k ≤ 200) (hkW : k ≤ W) (hk : k = W ∨ P + k = 200) (h : ∀ q, P < q → q ≤ P + k → ¬ vW p g nw q < 0 → vW p g nw q = b 4) : p_adv w p g nw b f = va_up b 3 (nI (P + k)) := by
  have hs : p_stops w p g nw b f = -1 := by
    unfold p_stops
    rw [hP, hW]
    exact walk_no hv h200 (by omega) hW15 h
  unfold p_adv
  rw [if_pos hl, if_pos hs, hP, hW, min_walk h200 hkW hk hW15]
theorem adv_halt {w p g : Nat → Int32} {nw P W k : Nat} {b : Nat → Int32} {f : Int32} (hv : okv w p g nw) (hl : p_lane (b 4)) (hP : b 3 = nI P) (hW : p_way w b f = nI W) (hW15 : W < 15) (h200 : P + k < 200) (hkW : k < W) (h : ∀ q, P < q → q ≤ P + k → ¬ vW p g nw q < 0 → vW p g nw q = b 4) (h0 : ¬ vW p g nw (P + k + 1) < 0) (h1 : ¬ vW p g nw (P + k + 1) = b 4) : p_adv w p g nw b f = p_halt b (nI (P + k + 1)) := by
  have hs : p_stops w p g nw b f = nI (P + k + 1) := by
    unfold p_stops
    rw [hP, hW]
    exact walk_yes hv h200 hkW hW15 h h0 h1
  unfold p_adv
  rw [if_pos hl, hs, if_neg (fun z => absurd z (nI_m1 (by omega)))]
theorem dec1 {W k : Nat} (h : k < W) : nI (W - k) + (-1) = nI (W - (k + 1)) := by
  obtain ⟨d, hd⟩ : ∃ d, W - k = d + 1 := ⟨W - k - 1, by omega⟩
  rw [hd, pk_m1, show W - (k + 1) = d by omega]
theorem home_yes {t : Int32} {b : Nat → Int32} (h : b 3 = 200) : p_home t b = va_up (va_up b 8 1) 9 t := if_pos h
theorem home_no {t : Int32} {b : Nat → Int32} (h : ¬ b 3 = 200) : p_home t b = b := if_neg h
theorem sB_home {b : Nat → Int32} {t : Int32} : sB (va_up (va_up b 8 1) 9 t) = a9 (b 3) (b 4) (b 5) (b 6) (b 7) t (b 10) (b 11) (b 2) := by
  show a9 (b 3) (b 4) (b 5) (b 6) (b 7) (if (1 : Int32) = 0 then -1 else t) (b 10) (b 11) (b 2) = _
  rw [if_neg (by decide)]
section FS
variable {p : Program} {l : Launch} {e : Env} {R : Room} {s : State} {m : MethodId} {args : Array Value} {below : List Frame} {meth : Method} {c : Code} {H H0 : Heap} {locs : List Loc} {cells slots mc ms : Nat} {Q : State → Prop}
variable {cc : ByteArray} {pc : Nat} {ls : Array Slot} {rest st0 : List Value} {D : va_G} {z : Nat} {ad : Nat → Nat} {L : List Nat} {E : Nat → va_E}
theorem f_retr {S : Type} {B : S → Nat → State → Prop} {post : S → Prop} {v : Nat} {rt : FieldType} (hQ : Q = MQ below (va_Qr post B (fA z)) args s mc ms (fA z)) (hexec : p.tables.exec = Jvm.exec) (hb : c.code = cc) (hr : meth.sig.returnType = some rt) (hrt : (∃ n, rt = .object n) ∨ ∃ t, rt = .array t) (hlocks : meth.locks = false) (hS : va_S (fA z) s.heap H locs) (hc : cells ≤ mc) (hs : slots ≤ ms) (hdg : decode cc pc = .ok (.areturn, 1)) (u : S) (hB : ∀ t : State, t.heap = H → B u v t) (hp : post u) : W p l e R s m args below meth c H locs cells slots Q (F0 m pc ls [.ref v]) := by
  subst hQ
  refine W.widen hc hs ?_
  exact W.aret hexec hb hr hrt (Or.inr ⟨_, rfl⟩) (fun t ht hW => ⟨⟨u, v, rfl, hp, hB t ht⟩, hS.F ht⟩) hS.2.2 hdg hlocks
theorem f_callr {a : Array Value} {L1 : List Nat} {kr : Nat} {post : (Nat → Nat) × (Nat → va_E) → Prop} (hr : va_Run p l e R s m args below meth c H locs cells slots mc ms (F0 m pc ls st0) rest (va_Qr post (fun u r t => fB D z u.1 L1 u.2 t ∧ u.1 kr = r) (fA z) a) (fA z)) (hI : fI D (fA z) H0 ad L E H locs)
    (kk : ∀ (ad1 : Nat → Nat) (E1 : Nat → va_E) (H1 : Heap) (locs1 : List Loc) (ra : Nat), ad1 kr = ra → post (ad1, E1) → fI D (fA z) H0 ad1 L1 E1 H1 locs1 → W p l e R s m args below meth c H1 locs1 (cells + mc) (slots + ms) Q (F0 m (pc + 3) ls (.ref ra :: rest))) : W p l e R s m args below meth c H locs cells slots Q (F0 m pc ls st0) :=
  va_callr hr hI.2.2 (fun q _ h => h) (fun q h => h) (fun u r t H1 locs1 ht _ hp hb _ _ hS1 => kk u.1 u.2 H1 locs1 r hb.2 hp ⟨by rw [← ht]; exact hb.1.1, hb.1.2, hS1⟩)
end FS
theorem fBr_of {D : va_G} {z : Nat} {H0 H : Heap} {locs : List Loc} {ad : Nat → Nat} {L : List Nat} {E : Nat → va_E} (hI : fI D (fA z) H0 ad L E H locs) {kr r : Nat} (h : ad kr = r) : ∀ t : State, t.heap = H → fB D z ad L E t ∧ ad kr = r := fun t ht => ⟨fB_of hI t ht, h⟩
theorem tick_1 {w p g : Nat → Int32} {nw : Nat} {t : Int32} {f b : Nat → Int32} : p_tick w p g nw t f b 1 = b 1 := by
  unfold p_tick
  split
  · unfold p_tickK
    rw [home_o (by omega) (by omega), wet_o (by omega), adv_o (by omega) (by omega) (by omega) (by omega), drift_o (by omega) (by omega), turn_o (by omega) (by omega)]
  · rfl
theorem mid_at {w p g : Nat → Int32} {nw T n i : Nat} {F B : Nat → Nat → Int32} (hi : i < n) : p_mid w p g nw T n F B 0 i i = B i := by
  unfold p_mid
  rw [if_pos hi, if_neg (Nat.lt_irrefl i)]
  rfl
theorem run_1 {w p g : Nat → Int32} {nw T n i : Nat} {F B : Nat → Nat → Int32} (hi : i < n) : p_run w p g nw T n F B 1 i = p_tick w p g nw (nI T) (F i) (B i) := by
  unfold p_run
  rw [if_pos hi]
  rfl
theorem run_o {w p g : Nat → Int32} {nw T n i j : Nat} {F B : Nat → Nat → Int32} (hi : n ≤ i) : p_run w p g nw T n F B j i = B i := by
  unfold p_run
  rw [if_neg (by omega)]
/-- how many came in among the first k -/
def cm (w p g : Nat → Int32) (nw T n : Nat) (F B : Nat → Nat → Int32) (k : Nat) : Int32 := p_in (p_run w p g nw T n F B 1) k - p_in B k
theorem cm_in {w p g : Nat → Int32} {nw T n k : Nat} {F B : Nat → Nat → Int32} (hk : k < n) (h : ¬ B k 8 = 0) : cm w p g nw T n F B (k + 1) = cm w p g nw T n F B k := by
  unfold cm
  have e : ¬ p_run w p g nw T n F B 1 k 8 = 0 := by rw [run_1 hk]; unfold p_tick; rw [if_neg h]; exact h
  rw [p_in, p_in, if_neg h, if_neg e]
  grind
theorem cm_out {w p g : Nat → Int32} {nw T n k : Nat} {F B : Nat → Nat → Int32} (hk : k < n) (h : B k 8 = 0) : cm w p g nw T n F B (k + 1) = cm w p g nw T n F B k + (if p_tick w p g nw (nI T) (F k) (B k) 8 = 0 then 0 else 1) := by
  unfold cm
  rw [p_in, p_in, if_pos h, run_1 hk]
  split
  · grind
  · grind
theorem cm_0 {w p g : Nat → Int32} {nw T n : Nat} {F B : Nat → Nat → Int32} : cm w p g nw T n F B 0 = 0 := by
  show (0 : Int32) - 0 = 0
  decide
theorem ps_in {B : Nat → Nat → Int32} {j : Nat} {f X : Int32} (h : p_in B (j + 1) + f = X) (h8 : ¬ B j 8 = 0) : p_in B j + (f + 1) = X := by
  rw [← h, p_in, if_neg h8]; grind
theorem ps_out {B : Nat → Nat → Int32} {j : Nat} {f X : Int32} (h : p_in B (j + 1) + f = X) (h8 : B j 8 = 0) : p_in B j + f = X := by
  rw [← h, p_in, if_pos h8]
theorem ps_f {B : Nat → Nat → Int32} {j : Nat} {f X : Int32} (h : p_fsum B (j + 1) + f = X) : p_fsum B j + (f + B j 7) = X := by
  rw [← h, p_fsum]; grind
theorem z_add {x : Int32} : (0 : Int32) + x = x := by grind
theorem s_lead_pos {B : Nat → Nat → Int32} {n j : Nat} {L : Int32} (h : s_lead B n j L) (hL : ¬ L < 0) : ∃ q, q < n ∧ L = nI q := by
  rcases h with ⟨e, -⟩ | ⟨q, -, b, e, -⟩
  · rw [e] at hL; exact absurd (by decide) hL
  · exact ⟨q, b, e⟩
theorem s_win_pos {B : Nat → Nat → Int32} {n j : Nat} {L : Int32} (h : s_win B n j L) (hL : ¬ L < 0) : ∃ q, q < n ∧ L = nI q := by
  rcases h with ⟨e, -⟩ | ⟨q, -, b, e, -⟩
  · rw [e] at hL; exact absurd (by decide) hL
  · exact ⟨q, b, e⟩
theorem m1_neg : (-1 : Int32) < 0 := by decide
theorem le_of_nlt {x y : Int32} (h : ¬ x < y) : y ≤ x := i_nlt.mp h
