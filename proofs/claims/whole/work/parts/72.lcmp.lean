section LC
variable {p : Program} {l : Launch} {e : Env} {R : Room} {s : State} {m : MethodId} {args : Array Value} {below : List Frame} {meth : Method} {c : Code} {H : Heap} {locs : List Loc} {cells slots : Nat} {Q : State → Prop}
variable {cc : ByteArray} {pc : Nat} {ls : Array Slot} {rest : List Value}
/-- longs that are alike -/
theorem f_lcmp (hexec : p.tables.exec = Jvm.exec) (hb : c.code = cc) {x y : Int64} (hxy : x = y) (hdg : decode cc pc = .ok (.lcmp, 1))
    (k : W p l e R s m args below meth c H locs cells slots Q (F0 m (pc + 1) ls (.int 0 :: rest))) : W p l e R s m args below meth c H locs cells slots Q (F0 m pc ls (.long y :: .long x :: rest)) := by
  subst hxy
  intro T hT X
  obtain ⟨t, a, b⟩ := k T hT X
  refine ⟨t, ?_, b⟩
  jvm_step X.here [X.here.top, hexec, hb, hdg]
  simpa using a
end LC
theorem mm.kept {cI : ClassId} {ad : Nat → Nat} {E E1 : Nat → va_E} {th : Int32} {w p g : Nat → Int32} {nw n T : Nat} {str : Nat → Int32} {S : Nat → Nat → Int32} (h : mm cI ad E th w p g nw n T str S) (hk : ∀ q, 50 ≤ q → q < 91 → E1 q = E q) : mm cI ad E1 th w p g nw n T str S := by
  obtain ⟨h1, h2, Ta, Sa, h3, h4⟩ := h
  exact ⟨h1.kept (fun q a b => hk q a (by omega)), h2.kept (fun q a b => hk q (by omega) (by omega)), Ta, Sa, h3, h4.kept (fun q a b => hk q (by omega) (by omega))⟩
/-- what holds between two calls of the script -/
def law_inv (cI cJ cB : ClassId) (ad : Nat → Nat) (E : Nat → va_E) (i : Nat) : Prop :=
  ∃ (th : Int32) (w p g : Nat → Int32) (nw n T : Nat) (str : Nat → Int32) (S B F : Nat → Nat → Int32) (fo : Nat → Int64), T ≤ 200 * i ∧ nw ≤ 6 ∧ n ≤ 6 ∧ okr w p nw ∧ (∀ q, q < n → okb (mb S str q)) ∧ rel n B F S str ∧ x_at cI cB ad E w p g nw n T B F ∧ mm cI ad E th w p g nw n T str S ∧ E 45 = .inl (cJ, 1, .inr (.inl fo))
theorem cw_0 {l x : Int32} (h : cm_water l x = 0) : (0 ≤ l ∧ l ≤ 4) ∧ 0 ≤ x ∧ x ≤ 6 := by
  unfold cm_water at h
  split at h
  · rename_i h1
    split at h
    · rename_i h2; exact ⟨h1, h2⟩
    · exact absurd h (by decide)
  · exact absurd h (by decide)
theorem cwe_0 {p : Nat → Int32} {nw : Nat} {x y : Int32} (h : cm_weir p nw x y = 0) : ((1 ≤ x ∧ x ≤ 199) ∧ 0 ≤ y ∧ y ≤ 4) ∧ ¬ m_free p x nw nw = 0 := by
  unfold cm_weir at h
  split at h
  · rename_i h1
    split at h
    · exact absurd h (by decide)
    · rename_i h2; exact ⟨h1, h2⟩
  · exact absurd h (by decide)
theorem cl_0 {n : Nat} {l x : Int32} (h : cm_launch n l x = 0) : ((0 ≤ l ∧ l ≤ 4) ∧ 1 ≤ x ∧ x ≤ 8) ∧ ¬ nI n = 6 := by
  unfold cm_launch at h
  split at h
  · rename_i h1
    split at h
    · exact absurd h (by decide)
    · rename_i h2; exact ⟨h1, h2⟩
  · exact absurd h (by decide)
theorem cp_0 {n : Nat} {x len d : Int32} (h : cm_paddle n x len d = 0) : p_isb n x ∧ (1 ≤ len ∧ len ≤ 6) ∧ p_pat len.toNatClampNeg d := by
  unfold cm_paddle at h
  split at h
  · rename_i h1
    split at h
    · rename_i h2; exact ⟨h1, h2⟩
    · exact absurd h (by decide)
  · exact absurd h (by decide)
theorem ct_0 {n : Nat} {S : Nat → Nat → Int32} {x : Int32} (h : cm_tar n S x = 0) : p_isb n x := by
  unfold cm_tar at h
  split at h
  · rename_i h1; exact h1
  · exact absurd h (by decide)
theorem cb_0 {n : Nat} {x v : Int32} (h : c_boat n x v = 0) : p_isb n x := by
  unfold c_boat at h
  split at h
  · rename_i h1; exact h1
  · exact absurd h (by decide)
theorem cr_0 {n : Nat} {x : Int32} (h : c_rank n x = 0) : p_isb n x := by
  unfold c_rank at h
  split at h
  · rename_i h1; exact h1
  · exact absurd h (by decide)
theorem t_200 {x : Int32} {k : Nat} (hk : k < 2 ^ 31) (h : 1 ≤ x ∧ x ≤ nI k) : x.toNatClampNeg ≤ k := by
  obtain ⟨u, hu, rfl⟩ := le_nat (one_le h.1) h.2 hk
  rw [nI_clamp (by omega)]
  exact hu
theorem cg_0 {x : Int32} (h : c_go x = 0) : x.toNatClampNeg ≤ 200 := by
  unfold c_go at h
  split at h
  · rename_i h1; exact t_200 (k := 200) (by decide) h1
  · exact absurd h (by decide)
theorem cf_0 {x v : Int32} (h : c_foresee x v = 0) : x.toNatClampNeg ≤ 200 := by
  unfold c_foresee at h
  split at h
  · rename_i h1; exact t_200 (k := 200) (by decide) h1
  · exact absurd h (by decide)
theorem ca_0 {n : Nat} {x t : Int32} (h : c_advise n x t = 0) : p_isb n x ∧ t.toNatClampNeg ≤ 60 := by
  unfold c_advise at h
  split at h
  · rename_i h1
    split at h
    · rename_i h2; exact ⟨h1, t_200 (k := 60) (by decide) h2⟩
    · exact absurd h (by decide)
  · exact absurd h (by decide)
theorem isb_u {n : Nat} {x : Int32} (hn : n ≤ 6) (h : p_isb n x) : x.toNatClampNeg < n := by
  obtain ⟨u, hu, rfl⟩ := ix_nat h (by omega)
  rw [nI_clamp (by omega)]
  exact hu
theorem okr_water {w p : Nat → Int32} {nw j : Nat} {y : Int32} (h : okr w p nw) (hy : 0 ≤ y ∧ y ≤ 6) : okr (upd w j y) p nw :=
  ⟨fun i hi => by
    by_cases q : i = j
    · subst q; rw [pk_us]; exact hy
    · rw [show upd w j y i = w i from if_neg q]; exact h.1 i hi, h.2⟩
theorem okr_weir {w p : Nat → Int32} {nw : Nat} {x : Int32} (h : okr w p nw) (hx : 1 ≤ x ∧ x ≤ 199) : okr w (upd p nw x) (nw + 1) :=
  ⟨h.1, fun i hi => by
    by_cases q : i = nw
    · subst q; rw [pk_us]; exact hx
    · rw [show upd p nw x i = p i from if_neg q]; exact h.2 i (by omega)⟩
theorem le8 {y : Int32} (h : 1 ≤ y ∧ y ≤ 8) : 0 ≤ y ∧ y ≤ 8 := ⟨one_le h.1, h.2⟩
