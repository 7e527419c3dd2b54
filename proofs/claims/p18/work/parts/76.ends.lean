/-! ===== what the law's doings make of its state ===== -/
/-- the race by hand but for its object's own fields -/
def s_rest (cI cJ : ClassId) (ad : Nat → Nat) (E : Nat → va_E) (w p g : Nat → Int32) (nw n : Nat) (B F : Nat → Nat → Int32) : Prop :=
  E 51 = .inl (cI, 5, .inl w) ∧ E 52 = .inl (cI, 201, .inl (vW p g nw)) ∧ E 53 = .inl (cJ, n, .inr (.inr (.inr (.inr (row_at ad 60 n))))) ∧ E 54 = .inl (cJ, n, .inr (.inr (.inr (.inr (row_at ad 70 n))))) ∧
  ∀ i, i < n → E (60 + i) = .inl (cI, 9, .inl (sB (B i))) ∧ E (70 + i) = .inl (cI, bl_len (B i), .inl (F i))
theorem s_rest.kept {cI cJ : ClassId} {ad : Nat → Nat} {E E1 : Nat → va_E} {w p g : Nat → Int32} {nw n : Nat} {B F : Nat → Nat → Int32} (h : s_rest cI cJ ad E w p g nw n B F) (hn : n ≤ 6) (hk : ∀ q : Nat, 51 ≤ q → q < 80 → E1 q = E q) : s_rest cI cJ ad E1 w p g nw n B F := by
  obtain ⟨h1, h2, h3, h4, h5⟩ := h
  exact ⟨(hk _ (by omega) (by omega)).trans h1, (hk _ (by omega) (by omega)).trans h2, (hk _ (by omega) (by omega)).trans h3, (hk _ (by omega) (by omega)).trans h4, fun i hi => ⟨(hk _ (by omega) (by omega)).trans (h5 i hi).1, (hk _ (by omega) (by omega)).trans (h5 i hi).2⟩⟩
theorem s_rest.ad {cI cJ : ClassId} {ad ad1 : Nat → Nat} {E : Nat → va_E} {w p g : Nat → Int32} {nw n : Nat} {B F : Nat → Nat → Int32} (h : s_rest cI cJ ad E w p g nw n B F) (hn : n ≤ 6) (h1 : ∀ q, 50 ≤ q → q < 80 → ad1 q = ad q) : s_rest cI cJ ad1 E w p g nw n B F := by
  obtain ⟨k1, k2, k3, k4, k5⟩ := h
  refine ⟨k1, k2, ?_, ?_, k5⟩
  · rw [row_at_ad (fun i hi => h1 _ (by omega) (by omega))]; exact k3
  · rw [row_at_ad (fun i hi => h1 _ (by omega) (by omega))]; exact k4
theorem row_at_up {ad ad1 : Nat → Nat} {k0 n : Nat} {a : Nat} (h : ∀ i, i < n → ad1 (k0 + i) = ad (k0 + i)) (ha : ad1 (k0 + n) = a) : va_up (row_at ad k0 n) n (some a) = row_at ad1 k0 (n + 1) := by
  rw [← row_at_s ad1 k0 n, row_at_ad h, ha]
theorem row_at_set {ad ad1 : Nat → Nat} {k0 n b : Nat} {a : Nat} (hb : b < n) (h : ∀ i, i < n → i ≠ b → ad1 (k0 + i) = ad (k0 + i)) (ha : ad1 (k0 + b) = a) : va_up (row_at ad k0 n) b (some a) = row_at ad1 k0 n := by
  funext i
  by_cases e : i = b
  · subst e
    rw [va_up_self]
    unfold row_at
    rw [if_pos hb, ha]
  · rw [va_up_ne _ _ e]
    unfold row_at
    by_cases hi : i < n
    · rw [if_pos hi, if_pos hi, h i hi e]
    · rw [if_neg hi, if_neg hi]
theorem okL.launch {w p g : Nat → Int32} {nw n T a s : Nat} {B : Nat → Nat → Int32} (h : okL w p g nw n T B) (hn : n < 6) (ha : a < 5) (hs : 1 ≤ s) (hs8 : s ≤ 8) : okL w p g nw (n + 1) T (va_up B n (p_new (B n) (nI a) (nI s))) := by
  obtain ⟨h1, h2, h3, h4, h5⟩ := h
  refine ⟨h1, by omega, h3, fun i hi => ?_, fun i hi h6 => ?_⟩
  · by_cases e : i = n
    · subst e
      rw [va_up_self, h5 i (Nat.le_refl _) hn]
      exact okc_new (nn_lane ha) ⟨nI_pos' (by omega), (nI_leI (by omega) (by omega) (b := 8)).mpr hs8⟩
    · rw [va_up_ne _ _ e]; exact h4 i (by omega)
  · rw [va_up_ne _ _ (by omega)]; exact h5 i (by omega) h6
theorem launch_end {D : va_G} {A : Nat → Prop} {H0 H : Heap} {locs : List Loc} {cI cJ cB : ClassId} {ad : Nat → Nat} {E : Nat → va_E} {w p g : Nat → Int32} {nw n T a s : Nat} {B F : Nat → Nat → Int32} {f3 : Nat → Int32} (hI : fI D A H0 ad (fLS n ++ [80] ++ [81] ++ [82] ++ [83]) E H locs) (hn : n < 6) (hL0 : okL w p g nw n T B) (ha : a < 5) (hs : 1 ≤ s) (hs8 : s ≤ 8)
    (hX : x_at cI cB ad E w p g nw (n + 1) T (va_up B n (p_new (B n) (nI a) (nI s))) (va_up F n (p_row (F n) 1 3))) (hR : s_rest cI cJ ad E w p g nw n B F) (h50 : E 50 = .inr (4, [.int (nI T), .ref (ad 51), .ref (ad 52), .int (nI nw), .ref (ad 81), .ref (ad 83)]))
    (h80 : E 80 = .inl (cI, 9, .inl (a9 0 (nI a) 0 0 0 (-1) 0 0 (nI s)))) (h81 : E 81 = .inl (cJ, n + 1, .inr (.inr (.inr (.inr (va_up (row_at ad 60 n) n (some (ad 80)))))))) (h82 : E 82 = .inl (cI, 1, .inl f3)) (hf3 : f3 0 = 3) (h83 : E 83 = .inl (cJ, n + 1, .inr (.inr (.inr (.inr (va_up (row_at ad 70 n) n (some (ad 82)))))))) :
    ∃ (ad1 : Nat → Nat) (E1 : Nat → va_E), (ad1 0 = ad 0 ∧ ad1 50 = ad 50) ∧ law_st cI cJ cB T (n + 1) ad1 E1 ∧ fI D A H0 ad1 (fLS (n + 1)) E1 H locs := by
  have hrow : ∀ j, j < 1 → f3 j = p_row (F n) 1 3 j := fun j hj => by
    have : j = 0 := by omega
    subst this
    rw [hf3]
    unfold p_row
    rw [if_pos (by omega)]
    decide
  have hI2 := fI_arr2 hI h82 hrow
  have hE2 : ∀ q, q ≠ 82 → va_up E 82 (.inl (cI, 1, .inl (p_row (F n) 1 3))) q = E q := fun q hq => va_up_ne _ _ hq
  have hE82 : va_up E 82 (.inl (cI, 1, .inl (p_row (F n) 1 3))) 82 = (.inl (cI, 1, .inl (p_row (F n) 1 3)) : va_E) := va_up_self _ _ _
  generalize va_up E 82 (.inl (cI, 1, .inl (p_row (F n) 1 3))) = E2 at hI2 hE2 hE82
  obtain ⟨r, r1, r53, r54, r60, r70⟩ : ∃ r : Nat → Nat, (∀ q : Nat, q ≠ 53 → q ≠ 54 → q ≠ 60 + n → q ≠ 70 + n → r q = q) ∧ r 53 = 81 ∧ r 54 = 83 ∧ r (60 + n) = 80 ∧ r (70 + n) = 82 :=
    ⟨fun q => if q = 53 then 81 else if q = 54 then 83 else if q = 60 + n then 80 else if q = 70 + n then 82 else q, fun q a b c d => by
      show (if q = 53 then 81 else if q = 54 then 83 else if q = 60 + n then 80 else if q = 70 + n then 82 else q) = q
      rw [if_neg a, if_neg b, if_neg c, if_neg d], rfl, rfl, by
      show (if 60 + n = 53 then 81 else if 60 + n = 54 then 83 else if 60 + n = 60 + n then 80 else if 60 + n = 70 + n then 82 else 60 + n) = 80
      rw [if_neg (by omega), if_neg (by omega), if_pos rfl], by
      show (if 70 + n = 53 then 81 else if 70 + n = 54 then 83 else if 70 + n = 60 + n then 80 else if 70 + n = 70 + n then 82 else 70 + n) = 82
      rw [if_neg (by omega), if_neg (by omega), if_neg (by omega), if_pos rfl]⟩
  have e1 : ∀ q : Nat, q ≠ 53 → q ≠ 54 → q ≠ 60 + n → q ≠ 70 + n → q ≠ 82 → E2 (r q) = E q := fun q a b c d e => by rw [r1 q a b c d]; exact hE2 q e
  have x1 : ∀ q : Nat, q ≠ 53 → q ≠ 54 → q ≠ 60 + n → q ≠ 70 + n → ad (r q) = ad q := fun q a b c d => by rw [r1 q a b c d]
  refine ⟨fun q => ad (r q), fun q => E2 (r q), ⟨x1 0 (by omega) (by omega) (by omega) (by omega), x1 50 (by omega) (by omega) (by omega) (by omega)⟩, ⟨w, p, g, nw, _, va_up F n (p_row (F n) 1 3), hL0.launch hn ha hs hs8, ?_, ?_⟩, ?_⟩
  · exact (hX.ad (fun q h1 => x1 q (by omega) (by omega) (by omega) (by omega))).kept (fun q h1 => e1 q (by omega) (by omega) (by omega) (by omega) (by omega))
  · obtain ⟨k1, k2, k3, k4, k5⟩ := hR
    refine ⟨?_, (e1 51 (by omega) (by omega) (by omega) (by omega) (by omega)).trans k1, (e1 52 (by omega) (by omega) (by omega) (by omega) (by omega)).trans k2, ?_, ?_, fun i hi => ?_⟩
    · show E2 (r 50) = .inr (4, [.int (nI T), .ref (ad (r 51)), .ref (ad (r 52)), .int (nI nw), .ref (ad (r 53)), .ref (ad (r 54))])
      rw [e1 50 (by omega) (by omega) (by omega) (by omega) (by omega), h50, r53, r54, x1 51 (by omega) (by omega) (by omega) (by omega), x1 52 (by omega) (by omega) (by omega) (by omega)]
    · show E2 (r 53) = _
      rw [r53, hE2 81 (by omega), h81, row_at_up (ad1 := fun q => ad (r q)) (fun i hi => x1 _ (by omega) (by omega) (by omega) (by omega)) (congrArg ad r60)]
    · show E2 (r 54) = _
      rw [r54, hE2 83 (by omega), h83, row_at_up (ad1 := fun q => ad (r q)) (fun i hi => x1 _ (by omega) (by omega) (by omega) (by omega)) (congrArg ad r70)]
    · show E2 (r (60 + i)) = _ ∧ E2 (r (70 + i)) = _
      by_cases e : i = n
      · subst e
        rw [va_up_self, va_up_self, r60, r70, hE2 80 (by omega), h80, hE82, hL0.2.2.2.2 i (Nat.le_refl _) hn, sB_new]
        exact ⟨rfl, rfl⟩
      · rw [va_up_ne _ _ e, va_up_ne _ _ e]
        exact ⟨(e1 _ (by omega) (by omega) (by omega) (by omega) (by omega)).trans (k5 i (by omega)).1, (e1 _ (by omega) (by omega) (by omega) (by omega) (by omega)).trans (k5 i (by omega)).2⟩
  · have rc : ∀ k, k ∈ fLS (n + 1) → (k = 53 ∧ r k = 81) ∨ (k = 54 ∧ r k = 83) ∨ (k = 60 + n ∧ r k = 80) ∨ (k = 70 + n ∧ r k = 82) ∨ (r k = k ∧ k < 80 ∧ k ∈ fLS n) := fun k hk => by
      have hm := fLS_mem.mp hk
      by_cases c1 : k = 53
      · exact Or.inl ⟨c1, by rw [c1]; exact r53⟩
      · by_cases c2 : k = 54
        · exact Or.inr (Or.inl ⟨c2, by rw [c2]; exact r54⟩)
        · by_cases c3 : k = 60 + n
          · exact Or.inr (Or.inr (Or.inl ⟨c3, by rw [c3]; exact r60⟩))
          · by_cases c4 : k = 70 + n
            · exact Or.inr (Or.inr (Or.inr (Or.inl ⟨c4, by rw [c4]; exact r70⟩)))
            · exact Or.inr (Or.inr (Or.inr (Or.inr ⟨r1 k c1 c2 c3 c4, by omega, fLS_mem.mpr (by omega)⟩)))
    refine fI_ren hI2 r (fLS_pw _) (fun k hk => ⟨?_, rfl, rfl⟩) (fun a1 h1 b1 h2 hab => ?_)
    · rcases rc k hk with c | c | c | c | c
      · rw [c.2]; simp
      · rw [c.2]; simp
      · rw [c.2]; simp
      · rw [c.2]; simp
      · rw [c.1]; simp [c.2.2]
    · rcases rc a1 h1 with c | c | c | c | c <;> rcases rc b1 h2 with d | d | d | d | d <;> omega
theorem okL.len {w p g : Nat → Int32} {nw n T b len : Nat} {B : Nat → Nat → Int32} (h : okL w p g nw n T B) (hb : b < n) (h1 : 1 ≤ len) (h6 : len ≤ 6) : okL w p g nw n T (va_up B b (va_up (B b) 1 (nI len))) := by
  obtain ⟨a1, a2, a3, a4, a5⟩ := h
  refine ⟨a1, a2, a3, fun i hi => ?_, fun i hi h9 => ?_⟩
  · by_cases e : i = b
    · subst e
      rw [va_up_self]; exact okc_len (a4 i hi) h1 h6
    · rw [va_up_ne _ _ e]; exact a4 i hi
  · rw [va_up_ne _ _ (by omega)]; exact a5 i hi h9
theorem paddle_end {D : va_G} {A : Nat → Prop} {H0 H : Heap} {locs : List Loc} {cI cJ cB : ClassId} {ad : Nat → Nat} {E : Nat → va_E} {w p g : Nat → Int32} {nw n T b len : Nat} {num : Int32} {B F : Nat → Nat → Int32} {f : Nat → Int32} (hI : fI D A H0 ad (fLS n ++ [80]) E H locs) (hL0 : okL w p g nw n T B) (hb : b < n) (h1 : 1 ≤ len) (h6 : len ≤ 6)
    (hX : x_at cI cB ad E w p g nw n T (va_up B b (va_up (B b) 1 (nI len))) (va_up F b (p_row (F b) len num))) (h50 : E 50 = sE ad T nw) (h51 : E 51 = .inl (cI, 5, .inl w)) (h52 : E 52 = .inl (cI, 201, .inl (vW p g nw))) (h53 : E 53 = .inl (cJ, n, .inr (.inr (.inr (.inr (row_at ad 60 n))))))
    (h54 : E 54 = .inl (cJ, n, .inr (.inr (.inr (.inr (va_up (row_at ad 70 n) b (some (ad 80)))))))) (h6x : ∀ i, i < n → E (60 + i) = .inl (cI, 9, .inl (sB (B i))) ∧ E (70 + i) = .inl (cI, bl_len (B i), .inl (F i))) (h80 : E 80 = .inl (cI, len, .inl f)) (hf : ∀ j, j < len → p_row (F b) len num j = f j) :
    ∃ (ad1 : Nat → Nat) (E1 : Nat → va_E), (ad1 0 = ad 0 ∧ ad1 50 = ad 50) ∧ law_st cI cJ cB T n ad1 E1 ∧ fI D A H0 ad1 (fLS n) E1 H locs := by
  have hn6 := hL0.2.1
  have hI2 := fI_arr2 hI h80 (fun j hj => (hf j hj).symm)
  have hE2 : ∀ q, q ≠ 80 → va_up E 80 (.inl (cI, len, .inl (p_row (F b) len num))) q = E q := fun q hq => va_up_ne _ _ hq
  have hE80 : va_up E 80 (.inl (cI, len, .inl (p_row (F b) len num))) 80 = (.inl (cI, len, .inl (p_row (F b) len num)) : va_E) := va_up_self _ _ _
  generalize va_up E 80 (.inl (cI, len, .inl (p_row (F b) len num))) = E2 at hI2 hE2 hE80
  obtain ⟨r, r1, r70⟩ : ∃ r : Nat → Nat, (∀ q : Nat, q ≠ 70 + b → r q = q) ∧ r (70 + b) = 80 := ⟨fun q => if q = 70 + b then 80 else q, fun q a => if_neg a, if_pos rfl⟩
  have e1 : ∀ q : Nat, q ≠ 70 + b → q ≠ 80 → E2 (r q) = E q := fun q a c => by rw [r1 q a]; exact hE2 q c
  have x1 : ∀ q : Nat, q ≠ 70 + b → ad (r q) = ad q := fun q a => by rw [r1 q a]
  refine ⟨fun q => ad (r q), fun q => E2 (r q), ⟨x1 0 (by omega), x1 50 (by omega)⟩, ⟨w, p, g, nw, _, va_up F b (p_row (F b) len num), hL0.len hb h1 h6, ?_, ?_⟩, ?_⟩
  · exact (hX.ad (fun q h1 => x1 q (by omega))).kept (fun q h1 => e1 q (by omega) (by omega))
  · refine ⟨?_, (e1 51 (by omega) (by omega)).trans h51, (e1 52 (by omega) (by omega)).trans h52, ?_, ?_, fun i hi => ?_⟩
    · show E2 (r 50) = .inr (4, [.int (nI T), .ref (ad (r 51)), .ref (ad (r 52)), .int (nI nw), .ref (ad (r 53)), .ref (ad (r 54))])
      rw [e1 50 (by omega) (by omega), h50, x1 51 (by omega), x1 52 (by omega), x1 53 (by omega), x1 54 (by omega)]
    · show E2 (r 53) = _
      rw [e1 53 (by omega) (by omega), h53, row_at_ad (ad := ad) (ad1 := fun q => ad (r q)) (fun i hi => x1 _ (by omega))]
    · show E2 (r 54) = _
      rw [e1 54 (by omega) (by omega), h54, row_at_set (ad1 := fun q => ad (r q)) hb (fun i hi hne => x1 _ (by omega)) (congrArg ad r70)]
    · show E2 (r (60 + i)) = _ ∧ E2 (r (70 + i)) = _
      by_cases e : i = b
      · subst e
        rw [va_up_self, va_up_self, r70, hE80, e1 (60 + i) (by omega) (by omega), (h6x i hi).1, sB_len]
        refine ⟨rfl, ?_⟩
        show _ = Sum.inl (cI, (nI len).toNatClampNeg, Sum.inl _)
        rw [nI_clamp (by omega)]
      · rw [va_up_ne _ _ e, va_up_ne _ _ e]
        exact ⟨(e1 _ (by omega) (by omega)).trans (h6x i hi).1, (e1 _ (by omega) (by omega)).trans (h6x i hi).2⟩
  · have rc : ∀ k, k ∈ fLS n → (k = 70 + b ∧ r k = 80) ∨ (r k = k ∧ k < 80 ∧ k ∈ fLS n) := fun k hk => by
      by_cases c4 : k = 70 + b
      · exact Or.inl ⟨c4, by rw [c4]; exact r70⟩
      · exact Or.inr ⟨r1 k c4, (fLS_mem.mp hk).1, hk⟩
    refine fI_ren hI2 r (fLS_pw _) (fun k hk => ⟨?_, rfl, rfl⟩) (fun a1 h1 b1 h2 hab => ?_)
    · rcases rc k hk with c | c
      · rw [c.2]; simp
      · rw [c.1]; simp [c.2.2]
    · rcases rc a1 h1 with c | c <;> rcases rc b1 h2 with d | d <;> omega
theorem okL.tar {w p g : Nat → Int32} {nw n T b : Nat} {x : Int32} {B : Nat → Nat → Int32} (h : okL w p g nw n T B) (hb : b < n) : okL w p g nw n T (va_up B b (va_up (va_up (B b) 6 0) 7 x)) := by
  obtain ⟨a1, a2, a3, a4, a5⟩ := h
  refine ⟨a1, a2, a3, fun i hi => ?_, fun i hi h9 => ?_⟩
  · by_cases e : i = b
    · subst e
      rw [va_up_self]; exact okc_tar (a4 i hi)
    · rw [va_up_ne _ _ e]; exact a4 i hi
  · rw [va_up_ne _ _ (by omega)]; exact a5 i hi h9
theorem okL.water {w p g : Nat → Int32} {nw n T q u : Nat} {B : Nat → Nat → Int32} (h : okL w p g nw n T B) (hu : u < 7) : okL (upd w q (nI u)) p g nw n T B := ⟨h.1, h.2.1, okv_water h.2.2.1 ⟨nI_pos' (by omega), (nI_leI (by omega) (by omega) (b := 6)).mpr (by omega)⟩, h.2.2.2⟩
theorem okL.weir {w p g : Nat → Int32} {nw n T pl gq : Nat} {B : Nat → Nat → Int32} (h : okL w p g nw n T B) (hn : nw < 6) (h1 : 1 ≤ pl) (h2 : pl ≤ 199) (hg : gq < 5) (hh : p_has p (nI pl) nw = 0) : okL w (upd p nw (nI pl)) (upd g nw (nI gq)) (nw + 1) n T B :=
  ⟨by omega, h.2.1, okv_weir h.2.2.1 ⟨(nI_leI (by omega) (by omega) (a := 1)).mpr h1, (nI_leI (by omega) (by omega) (b := 199)).mpr h2⟩ (nn_lane hg) hh, h.2.2.2⟩
theorem one_add (q : Nat) : 1 + nI q = nI (q + 1) := by
  show nI 1 + nI q = nI (q + 1)
  rw [nI_add, Nat.add_comm]
