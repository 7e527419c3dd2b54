section LC
variable {p : Program} {l : Launch} {e : Env} {R : Room} {s : State} {m : MethodId} {args : Array Value} {below : List Frame} {meth : Method} {c : Code} {H : Heap} {locs : List Loc} {cells slots : Nat} {Q : State → Prop}
variable {cc : ByteArray} {pc : Nat} {ls : Array Slot} {rest : List Value}
/-- longs that are alike -/
theorem f_lcmp (hexec : p.tables.exec = Jvm.exec) (hb : c.code = cc) {x y : Int64} (hxy : x = y) (hdg : decode cc pc = .ok (.lcmp, 1))
    (k : W p l e R s m args below meth c H locs cells slots Q (F0 m (pc + 1) ls (.int 0 :: rest))) : W p l e R s m args below meth c H locs cells slots Q (F0 m pc ls (.long y :: .long x :: rest)) := by
  subst hxy
  intro T hT X
  obtain ⟨t, a, b⟩ := k T hT X
  refine ⟨t, ?_, b⟩
  jvm_step X.here [X.here.top, hexec, hb, hdg]
  simpa using a
end LC
theorem okr_water {w p : Nat → Int32} {nw j : Nat} {y : Int32} (h : okr w p nw) (hy : 0 ≤ y ∧ y ≤ 6) : okr (upd w j y) p nw :=
  ⟨fun i hi => by
    by_cases q : i = j
    · subst q; rw [pk_us]; exact hy
    · rw [show upd w j y i = w i from if_neg q]; exact h.1 i hi, h.2⟩
/-! the law's numbers -/
def l_below (v n : Int32) : Int32 := p_rem (v &&& 2147483647) n
theorem below_nat (v : Int32) {m : Nat} (h0 : 0 < m) (hm : m < 2 ^ 31) : ∃ q : Nat, q < m ∧ l_below v (nI m) = nI q := by
  obtain ⟨j, hj, e⟩ := pk_andE v (m := 2147483647) 31 (by decide)
  refine ⟨j % m, Nat.mod_lt j h0, ?_⟩
  unfold l_below p_rem
  rw [e, pk_rem hj h0 hm]
theorem dec_cw : ∀ q, q < 5 → ∀ u, u < 7 → c_water (nI q) (nI u) = 0 := by decide +kernel
theorem nn_lane {q : Nat} (h : q < 5) : p_lane (nI q) := ⟨nI_pos' (by omega), (nI_ltI (by omega) (by omega) (b := 5)).mpr h⟩
theorem cweir_0 {p : Nat → Int32} {nw pl gq : Nat} (h1 : 1 ≤ pl) (h2 : pl ≤ 199) (hg : gq < 5) (hn : nw < 6) (h : p_has p (nI pl) nw = 0) : c_weir p nw (nI pl) (nI gq) = 0 := by
  unfold c_weir
  rw [if_neg (fun z => z.elim (fun a => absurd ((nI_ltI (by omega) (by omega) (b := 1)).mp a) (by omega)) (fun a => absurd ((nI_leI (by omega) (by omega) (a := 200)).mp a) (by omega))), if_pos (nn_lane hg), if_pos (show nI nw < (6 : Int32) from (nI_ltI (by omega) (by omega) (b := 6)).mpr hn), if_pos h]
theorem cweir_2 {p : Nat → Int32} {nw pl gq : Nat} (h1 : 1 ≤ pl) (h2 : pl ≤ 199) (hg : gq < 5) (hn : nw ≤ 6) (h : nw = 6 ∨ ¬ p_has p (nI pl) nw = 0) : c_weir p nw (nI pl) (nI gq) = 2 := by
  unfold c_weir
  rw [if_neg (fun z => z.elim (fun a => absurd ((nI_ltI (by omega) (by omega) (b := 1)).mp a) (by omega)) (fun a => absurd ((nI_leI (by omega) (by omega) (a := 200)).mp a) (by omega))), if_pos (nn_lane hg)]
  by_cases q : nI nw < 6
  · rw [if_pos q]
    rcases h with h | h
    · exact absurd ((nI_ltI (by omega) (by omega) (b := 6)).mp q) (by omega)
    · rw [if_neg h]
  · rw [if_neg q]
theorem vW_has {p g : Nat → Int32} {nw q : Nat} (hg : ∀ i, i < nw → p_lane (g i)) : vW p g nw q < 0 ↔ p_has p (nI q) nw = 0 := by
  rw [has_iff]
  rcases vW_or (p := p) (q := q) hg with ⟨i, hi, e1, -, e3⟩ | ⟨h, e⟩
  · exact ⟨fun z => absurd z e3, fun z => absurd e1 (z i hi)⟩
  · rw [e]; exact ⟨fun _ => h, fun _ => by decide⟩
theorem claunch_0 {n a s : Nat} (ha : a < 5) (h1 : 1 ≤ s) (h8 : s ≤ 8) (hn : n < 6) : c_launch n (nI a) (nI s) = 0 := by
  unfold c_launch
  rw [if_pos (nn_lane ha), if_neg (fun z => z.elim (fun a => absurd ((nI_ltI (by omega) (by omega) (b := 1)).mp a) (by omega)) (fun a => absurd ((nI_ltI (by omega) (by omega) (a := 8)).mp a) (by omega))), if_pos (show nI n < (6 : Int32) from (nI_ltI (by omega) (by omega) (b := 6)).mpr hn)]
theorem claunch_2 {n a s : Nat} (ha : a < 5) (h1 : 1 ≤ s) (h8 : s ≤ 8) (hn : n = 6) : c_launch n (nI a) (nI s) = 2 := by
  unfold c_launch
  rw [if_pos (nn_lane ha), if_neg (fun z => z.elim (fun a => absurd ((nI_ltI (by omega) (by omega) (b := 1)).mp a) (by omega)) (fun a => absurd ((nI_ltI (by omega) (by omega) (a := 8)).mp a) (by omega))), if_neg (show ¬ nI n < (6 : Int32) from fun z => absurd ((nI_ltI (by omega) (by omega) (b := 6)).mp z) (by omega))]
theorem isb_of {n b : Nat} (hb : b < n) (hn : n ≤ 6) : p_isb n (nI b) := ⟨nI_pos' (by omega), (nI_ltI (by omega) (by omega)).mpr hb⟩
theorem cpaddle_0 {n b len : Nat} {d : Int32} (hb : b < n) (hn : n ≤ 6) (h1 : 1 ≤ len) (h6 : len ≤ 6) (hp : p_pat len d) : c_paddle n (nI b) (nI len) d = 0 := by
  unfold c_paddle
  rw [if_pos (isb_of hb hn), if_neg (fun z => z.elim (fun a => absurd ((nI_ltI (by omega) (by omega) (b := 1)).mp a) (by omega)) (fun a => absurd ((nI_ltI (by omega) (by omega) (a := 6)).mp a) (by omega))), nI_clamp (by omega), if_pos hp]
theorem ctar_0 {n b : Nat} {B : Nat → Nat → Int32} (hb : b < n) (hn : n ≤ 6) (h : B b 8 = 0) : c_tar n B (nI b) = 0 := by
  unfold c_tar
  rw [if_pos (isb_of hb hn), nI_clamp (by omega), if_pos h]
theorem ctar_2 {n b : Nat} {B : Nat → Nat → Int32} (hb : b < n) (hn : n ≤ 6) (h : ¬ B b 8 = 0) : c_tar n B (nI b) = 2 := by
  unfold c_tar
  rw [if_pos (isb_of hb hn), nI_clamp (by omega), if_neg h]
theorem cboat_0 {n b v : Nat} (hb : b < n) (hn : n ≤ 6) (hv : v ≤ 8) : c_boat n (nI b) (nI v) = 0 := by
  unfold c_boat
  rw [if_pos (isb_of hb hn), if_pos ⟨nI_pos' (by omega), (nI_leI (by omega) (by omega) (b := 8)).mpr hv⟩]
theorem ccount_0 {v : Nat} (hv : v ≤ 6) : c_count (nI v) = 0 := if_pos ⟨nI_pos' (by omega), (nI_leI (by omega) (by omega) (b := 6)).mpr hv⟩
theorem crank_0 {n b : Nat} (hb : b < n) (hn : n ≤ 6) : c_rank n (nI b) = 0 := if_pos (isb_of hb hn)
theorem cgo_1 : c_go 1 = 0 := by decide
theorem cforesee_0 {v : Nat} (h3 : 3 ≤ v) (h6 : v ≤ 6) : c_foresee 1 (nI v) = 0 := by
  unfold c_foresee
  rw [if_pos (by decide), if_pos ⟨(nI_leI (by omega) (by omega) (a := 3)).mpr h3, (nI_leI (by omega) (by omega) (b := 6)).mpr h6⟩]
theorem cadvise_0 {n b t : Nat} (hb : b < n) (hn : n ≤ 6) (h1 : 1 ≤ t) (h6 : t ≤ 60) : c_advise n (nI b) (nI t) = 0 := by
  unfold c_advise
  rw [if_pos (isb_of hb hn), if_pos ⟨(nI_leI (by omega) (by omega) (a := 1)).mpr h1, (nI_leI (by omega) (by omega) (b := 60)).mpr h6⟩]
/-! digits -/
def dnum (d : Nat → Nat) : Nat → Nat
  | 0 => 0
  | k + 1 => 10 * dnum d k + d k
theorem dnum_congr {d e : Nat → Nat} : ∀ {k : Nat}, (∀ j, j < k → d j = e j) → dnum d k = dnum e k
  | 0, _ => rfl
  | k + 1, h => by rw [dnum, dnum, dnum_congr (fun j hj => h j (by omega)), h k (by omega)]
theorem dnum_lt {d : Nat → Nat} : ∀ {k : Nat}, (∀ j, j < k → d j < 4) → dnum d k < 10 ^ k
  | 0, _ => (Nat.one_pos : (0 : Nat) < 1)
  | k + 1, h => by
    have h1 := dnum_lt (d := d) (k := k) (fun j hj => h j (by omega))
    have h2 := h k (by omega)
    rw [dnum, Nat.pow_succ]
    omega
theorem dnum_dig {d : Nat → Nat} : ∀ {k i : Nat}, (∀ j, j < k → d j < 4) → i < k → dnum d k / 10 ^ (k - 1 - i) % 10 = d i
  | 0, i, _, hi => absurd hi (by omega)
  | k + 1, i, h, hi => by
    have hk := h k (by omega)
    rw [dnum]
    by_cases e : i = k
    · subst e
      rw [show i + 1 - 1 - i = 0 by omega, Nat.pow_zero, Nat.div_one]
      omega
    · have h2 := dnum_dig (d := d) (k := k) (i := i) (fun j hj => h j (by omega)) (by omega)
      rw [show k + 1 - 1 - i = (k - 1 - i) + 1 by omega, Nat.pow_succ, Nat.mul_comm (10 ^ (k - 1 - i)) 10, ← Nat.div_div_eq_div_mul, show (10 * dnum d k + d k) / 10 = dnum d k by omega]
      exact h2
theorem pow6 : ∀ k, k < 7 → 10 ^ k < 2 ^ 31 := by decide
def pd (f : Nat → Int32) (k : Nat) (num : Int32) : Prop := ∃ d : Nat → Nat, (∀ j, j < k → d j < 4 ∧ f j = nI (d j)) ∧ num = nI (dnum d k)
theorem pd_0 (f : Nat → Int32) : pd f 0 0 := ⟨fun _ => 0, fun j hj => absurd hj (by omega), rfl⟩
theorem pd_s {f : Nat → Int32} {k q : Nat} {num v : Int32} (h : pd f k num) (hq : q < 4) (hv : v = nI q) : pd (upd f k v) (k + 1) (10 * num + v) := by
  obtain ⟨d, h1, h2⟩ := h
  refine ⟨fun j => if j = k then q else d j, fun j hj => ?_, ?_⟩
  · by_cases e : j = k
    · subst e
      show (if j = j then q else d j) < 4 ∧ upd f j v j = nI (if j = j then q else d j)
      rw [if_pos rfl, pk_us]
      exact ⟨hq, hv⟩
    · show (if j = k then q else d j) < 4 ∧ upd f k v j = nI (if j = k then q else d j)
      rw [if_neg e, show upd f k v j = f j from pk_un e]
      exact h1 j (by omega)
  · show 10 * num + v = nI (10 * dnum (fun j => if j = k then q else d j) k + (if k = k then q else d k))
    rw [if_pos rfl, dnum_congr (e := d) (fun j hj => if_neg (by omega)), h2, hv, fa_lit 10, pk_mul, nI_add]
theorem shr_nat {D : Nat} (hD : D < 2 ^ 31) : ∀ k : Nat, p_shr (nI D) k = nI (D / 10 ^ k)
  | 0 => by rw [Nat.pow_zero, Nat.div_one]; rfl
  | k + 1 => by
    rw [p_shr, shr_nat hD k, Nat.pow_succ, ← Nat.div_div_eq_div_mul]
    exact pk_div (Nat.lt_of_le_of_lt (Nat.div_le_self _ _) hD) (by decide) (by decide)
theorem pd_end {f F : Nat → Int32} {len : Nat} {num : Int32} (h : pd f len num) (h6 : len ≤ 6) : p_pat len num ∧ ∀ j, j < len → p_row F len num j = f j := by
  obtain ⟨d, h1, h2⟩ := h
  have h4 : ∀ j, j < len → d j < 4 := fun j hj => (h1 j hj).1
  have hlt := dnum_lt h4
  have hp := pow6 len (by omega)
  have hD : dnum d len < 2 ^ 31 := by omega
  have hrem : ∀ m : Nat, m < 2 ^ 31 → p_rem (nI m) 10 = nI (m % 10) := fun m hm => pk_rem hm (by decide) (by decide)
  subst h2
  refine ⟨⟨nI_pos' hD, fun i hi => ?_, ?_⟩, fun j hj => ?_⟩
  · rw [shr_nat hD, hrem _ (Nat.lt_of_le_of_lt (Nat.div_le_self _ _) hD)]
    have e := dnum_dig (i := len - 1 - i) h4 (by omega)
    rw [show len - 1 - (len - 1 - i) = i by omega] at e
    rw [e]
    have := h4 (len - 1 - i) (by omega)
    exact (nI_leI (by omega) (by omega) (b := 3)).mpr (by omega)
  · rw [shr_nat hD, Nat.div_eq_of_lt hlt]; rfl
  · unfold p_row
    rw [if_pos hj, shr_nat hD, hrem _ (Nat.lt_of_le_of_lt (Nat.div_le_self _ _) hD), dnum_dig h4 hj]
    exact (h1 j hj).2.symm
/-! boats after the law's doings -/
theorem okc_new {T : Nat} {x y : Int32} (hx : p_lane x) (hy : 0 ≤ y ∧ y ≤ 8) : okc T (p_new b_new x y) := by
  refine ⟨⟨(by decide : (1 : Int32) ≤ 1 ∧ (1 : Int32) ≤ 6), hy, (by decide : (0 : Int32) ≤ 0 ∧ (0 : Int32) ≤ 200), hx, (by decide : (-4 : Int32) ≤ 0 ∧ (0 : Int32) ≤ 4), (by decide : (0 : Int32) ≤ 0 ∧ (0 : Int32) ≤ 30), Or.inl ⟨rfl, rfl⟩⟩, fun _ => (by decide : ¬ (0 : Int32) = 200), fun h => absurd rfl h, ⟨0, by omega, rfl⟩, ⟨0, by omega, rfl⟩⟩
theorem okc_len {T len : Nat} {b : Nat → Int32} (h : okc T b) (h1 : 1 ≤ len) (h6 : len ≤ 6) : okc T (va_up b 1 (nI len)) := by
  obtain ⟨⟨a1, a2, a3, a4, a5, a6, a7⟩, b1, b2, b3, b4⟩ := h
  exact ⟨⟨⟨(nI_leI (by omega) (by omega) (a := 1)).mpr h1, (nI_leI (by omega) (by omega) (b := 6)).mpr h6⟩, a2, a3, a4, a5, a6, a7⟩, b1, b2, b3, b4⟩
theorem okc_tar {T : Nat} {b : Nat → Int32} {x : Int32} (h : okc T b) : okc T (va_up (va_up b 6 0) 7 x) := by
  obtain ⟨⟨a1, a2, a3, a4, a5, a6, a7⟩, b1, b2, b3, b4⟩ := h
  exact ⟨⟨a1, a2, a3, a4, a5, (by decide : (0 : Int32) ≤ 0 ∧ (0 : Int32) ≤ 30), a7⟩, b1, b2, b3, b4⟩
theorem okv_water {w p g : Nat → Int32} {nw j : Nat} {y : Int32} (h : okv w p g nw) (hy : 0 ≤ y ∧ y ≤ 6) : okv (upd w j y) p g nw := ⟨okr_water h.1 hy, h.2⟩
theorem sB_new {x y : Int32} : sB (p_new b_new x y) = a9 0 x 0 0 0 (-1) 0 0 y := by
  show a9 0 x 0 0 0 (if (0 : Int32) = 0 then -1 else 0) 0 0 y = _
  rw [if_pos rfl]
theorem sB_len {b : Nat → Int32} {x : Int32} : sB (va_up b 1 x) = sB b := rfl
theorem sB_tar {b : Nat → Int32} {x : Int32} : sB (va_up (va_up b 6 0) 7 x) = a9 (b 3) (b 4) (b 5) 0 x (if b 8 = 0 then -1 else b 9) (b 10) (b 11) (b 2) := rfl
theorem a9_z : (fun _ => (0 : Int32)) = a9 0 0 0 0 0 0 0 0 0 := by
  funext j; match j with | 0 => rfl | 1 => rfl | 2 => rfl | 3 => rfl | 4 => rfl | 5 => rfl | 6 => rfl | 7 => rfl | 8 => rfl | j + 9 => rfl
theorem dec_mcmp : ∀ s, s < 1201 → ∀ n, n < 7 → ¬ n = 0 → Op.cmpValue (FP.dcmp (FP.ddiv (FP.i2d (nI s)) (FP.i2d (nI n))) (FP.ddiv (FP.i2d (nI s)) (FP.i2d (nI n)))) .l = 0 := by decide +kernel
theorem mean_cmp {B : Nat → Nat → Int32} {n : Nat} (hn : n ≤ 6) (h0 : ¬ n = 0) (h : ∀ i, i < n → 0 ≤ B i 3 ∧ B i 3 ≤ 200) : Op.cmpValue (FP.dcmp (p_mean n B) (FP.ddiv (FP.i2d (p_psum B n)) (FP.i2d (nI n)))) .l = 0 := by
  obtain ⟨s, hs, e⟩ := psum_rng hn h
  unfold p_mean
  rw [if_neg (show ¬ nI n < (1 : Int32) from fun z => absurd ((nI_ltI (by omega) (by omega) (b := 1)).mp z) (by omega)), e]
  exact dec_mcmp s (by omega) n (by omega) h0
theorem mean_cmp0 {B : Nat → Nat → Int32} : Op.cmpValue (FP.dcmp (p_mean 0 B) FP.dconst0) .l = 0 := by
  unfold p_mean
  rw [if_pos (by decide)]
  decide +kernel
