/-! ===== what the methods need of the machine, out of what the Statement gives of the start ===== -/
theorem fNest_to {w : Cond} (hw : w ∈ fNest) {A : Array Value} {U : State} (h : w.before A U = true) : va_Nw w U := by
  rcases fNest_ok w hw with ⟨a, i, b, n, d, k, rfl⟩ | ⟨a, i, x, k, rfl⟩ | ⟨a, b, rfl⟩ | ⟨x, rfl⟩ | ⟨x, rfl⟩
  · exact va_Nw.of rfl h
  · exact va_Nw.of rfl h
  · exact va_Nw.of rfl h
  · exact va_Nw.of rfl h
  · exact va_AO.of h
set_option maxRecDepth 100000 in
theorem fNest_tbl : ∀ w ∈ fNest, w ∈ lw_tbl := by decide +kernel
set_option maxRecDepth 100000 in
theorem fTexts_tbl : ∀ q ∈ fTexts, Cond.stringRef RX3 q.1 q.2 ∈ lw_tbl := by decide +kernel
theorem arr_of {s : State} {A : Array Value} {ty : FieldType} (h : (Cond.arrayClass ty).before A s = true) : ∃ cA : ClassId, ArrOfT s cA ty ∧ s.vm.findClass ("[" ++ ty.toString) = some cA := by
  obtain ⟨cA, kA, comp, hf, hk, hkind⟩ := Cond.arrayClass_spec h
  exact ⟨cA, fun N z => ⟨(fun k h => by cases h), kA, hk, comp, hkind⟩, hf⟩
set_option maxHeartbeats 4000000 in
set_option maxRecDepth 100000 in
theorem fG_start {s : State} {b : Nat} (hts : ∀ w ∈ lw_tbl, w.before #[Value.ref b] s = true) (hgv : (Jvm.Cond.and given_1 narrow_1).before #[Value.ref b] s = true) : ∃ (D : va_G) (cI cJ cB : ClassId) (t0 : Nat) (tx : Nat → Nat), fG D cI cJ cB t0 s.heap.size tx s := by
  have hA : ∀ a : Nat, a < s.heap.size → ¬ fA s.heap.size a := fun a h => Nat.not_le.mpr h
  have hs := flat_of_before _ hgv
  obtain ⟨c0, i0, k0⟩ := u_known (C := RX0) (T := TX0) (N := 12) (n := 12) hts inX0 (hts (.instantiable RX0 12) (by decide +kernel))
  obtain ⟨c1, i1, k1⟩ := u_known (C := RX1) (T := TX1) (N := 3) (n := 3) hts inX1 (hts (.instantiable RX1 3) (by decide +kernel))
  obtain ⟨c2, i2, k2⟩ := u_known (C := RX2) (T := TX2) (N := 4) (n := 4) hts inX2 (hts (.instantiable RX2 4) (by decide +kernel))
  obtain ⟨c3, i3, k3⟩ := u_known (C := RX3) (T := TX3) (N := 3) (n := 3) hts inX3 (hts (.instantiable RX3 3) (by decide +kernel))
  obtain ⟨c4, i4, k4⟩ := u_known (C := RX4) (T := TX4) (N := 12) (n := 12) hts inX4 (hts (.instantiable RX4 12) (by decide +kernel))
  obtain ⟨c5, i5, k5⟩ := u_known (C := RX5) (T := TX5) (N := 9) (n := 9) hts inX5 (hts (.instantiable RX5 9) (by decide +kernel))
  obtain ⟨dC, dI, hKc⟩ : ∃ (dC : Nat → ClassId) (dI : Nat → Nat → Nat), ∀ (k : Nat) (q : vw_C), vwCl[k]? = some q → u_Kn s q.1 q.2.1 q.2.2 (dC k) (dI k) := by
    refine ⟨fun k => if k = 0 then c0 else if k = 1 then c1 else if k = 2 then c2 else if k = 3 then c3 else if k = 4 then c4 else c5, fun k => if k = 0 then i0 else if k = 1 then i1 else if k = 2 then i2 else if k = 3 then i3 else if k = 4 then i4 else i5, ?_⟩
    intro k q hq
    match k, hq with
    | 0, hq => cases hq; exact k0
    | 1, hq => cases hq; exact k1
    | 2, hq => cases hq; exact k2
    | 3, hq => cases hq; exact k3
    | 4, hq => cases hq; exact k4
    | 5, hq => cases hq; exact k5
    | k + 6, hq => simp [vwCl] at hq
  obtain ⟨cI, aI, fI1⟩ := arr_of (hts (.arrayClass .int) (by decide +kernel))
  obtain ⟨cJ, aJ, fJ1⟩ := arr_of (hts (.arrayClass .long) (by decide +kernel))
  obtain ⟨compB, cB, kB, b1, -, b3, b4, b5⟩ := Cond.arrayOver_spec (hts (.arrayOver (.object RX0)) (fNest_tbl _ (by simp [fNest])))
  have hK : va_K (dC, dI) vwCl (fTys cI cJ cB) s := by
    refine ⟨hKc, fun k q hq => ?_⟩
    match k, hq with
    | 0, hq => cases hq; exact ⟨aI, fI1⟩
    | 1, hq => cases hq; exact ⟨aJ, fJ1⟩
    | 2, hq => cases hq; exact ⟨fun N z => ⟨(fun k h => by cases h), kB, b3, compB, b4⟩, kB, compB, b3, b4, b1, b5⟩
    | k + 3, hq => simp at hq
  have hlen : (Term.length (.static RX5 "TENS" "[I")).eval #[Value.ref b] s none [] s = some (.int (Int32.ofNat 7)) := va_eqt (hs (.eq (.length (.static RX5 "TENS" "[I")) (.int 7)) (by decide +kernel))
  have hel : ∀ j : Nat, j < 7 → (Term.elem (.static RX5 "TENS" "[I") (.int (Int32.ofNat j))).eval #[Value.ref b] s none [] s = some (.int (fTen j)) := fun j hj => by
    rcases (show j = 0 ∨ j = 1 ∨ j = 2 ∨ j = 3 ∨ j = 4 ∨ j = 5 ∨ j = 6 by omega) with rfl | rfl | rfl | rfl | rfl | rfl | rfl
    · exact va_eqt (hs (.eq (.elem (.static RX5 "TENS" "[I") (.int 0)) (.int 1)) (by decide +kernel))
    · exact va_eqt (hs (.eq (.elem (.static RX5 "TENS" "[I") (.int 1)) (.int 10)) (by decide +kernel))
    · exact va_eqt (hs (.eq (.elem (.static RX5 "TENS" "[I") (.int 2)) (.int 100)) (by decide +kernel))
    · exact va_eqt (hs (.eq (.elem (.static RX5 "TENS" "[I") (.int 3)) (.int 1000)) (by decide +kernel))
    · exact va_eqt (hs (.eq (.elem (.static RX5 "TENS" "[I") (.int 4)) (.int 10000)) (by decide +kernel))
    · exact va_eqt (hs (.eq (.elem (.static RX5 "TENS" "[I") (.int 5)) (.int 100000)) (by decide +kernel))
    · exact va_eqt (hs (.eq (.elem (.static RX5 "TENS" "[I") (.int 6)) (.int 1000000)) (by decide +kernel))
  obtain ⟨t0, ht, hT⟩ := va_Tof (tm := .static RX5 "TENS" "[I") (ty := .int) (N := 7) (f := fun j => .int (fTen j)) (by decide) (hs (.arrayOf (.static RX5 "TENS" "[I") .int) (by decide +kernel)) hlen hel hA
  have hZ := va_Zof (hts (.laysStatic RX5 "TENS" "[I") (by decide +kernel)) (hts (.initialized RX5) (by decide +kernel)) ht hA
  have htxt : ∀ q ∈ fTexts, (Cond.stringRef RX3 q.1 q.2).before #[] s = true ∧ ∃ a, (Term.string RX3 q.1).eval #[] s none [] s = some (.ref a) := fun q hq => by
    have hw := hts _ (fTexts_tbl q hq)
    obtain ⟨-, -, -, a, -, -, -, -, -, he⟩ := Cond.stringRef_spec k3.2.1 hw
    have h2 : vk_R RX3 q.1 q.2 a s := vk_R.of hw he
    exact ⟨h2.1, a, h2.2⟩
  obtain ⟨tx, htx⟩ : ∃ tx : Nat → Nat, ∀ q ∈ fTexts, vk_R RX3 q.1 q.2 (tx q.1) s := by
    classical
    refine ⟨fun k => if h : ∃ a, (Term.string RX3 k).eval #[] s none [] s = some (.ref a) then Classical.choose h else 0, fun q hq => ?_⟩
    obtain ⟨h1, h2⟩ := htxt q hq
    refine ⟨h1, ?_⟩
    show (Term.string RX3 q.1).eval #[] s none [] s = some (.ref (if h : ∃ a, (Term.string RX3 q.1).eval #[] s none [] s = some (.ref a) then Classical.choose h else 0))
    rw [dif_pos h2]
    exact Classical.choose_spec h2
  refine ⟨(dC, dI), cI, cJ, cB, t0, tx, hK, fun w hw => fNest_to hw (hts w (fNest_tbl w hw)), hZ, hT, Nat.le_refl _, ?_, ?_, htx, ?_⟩
  · exact vx_Zqof (hts (.laysStatic Bundle.tN "UNASSIGNED_STACK" Bundle.steD) (by decide +kernel)) (hts (.initialized Bundle.tN) (by decide +kernel)) (hs (.isRef (.static Bundle.tN "UNASSIGNED_STACK" Bundle.steD)) (by decide +kernel)) hA
  · exact vx_Zqof (hts (.laysStatic Bundle.tN "SUPPRESSED_SENTINEL" Bundle.listD) (by decide +kernel)) (hts (.initialized Bundle.tN) (by decide +kernel)) (hs (.isRef (.static Bundle.tN "SUPPRESSED_SENTINEL" Bundle.listD)) (by decide +kernel)) hA
  · intro q hq
    simp only [fNcs, List.mem_cons, List.mem_nil_iff, or_false] at hq
    rcases hq with rfl | rfl | rfl | rfl
    · exact va_Nc.of (hs (.not (.castable fIA fIO)) (by decide +kernel))
    · exact va_Nc.of (hs (.not (.castable fIS fIA)) (by decide +kernel))
    · exact va_Nc.of (hs (.not (.castable fIS fIO)) (by decide +kernel))
    · exact va_Nc.of (hs (.not (.castable fIO fIA)) (by decide +kernel))
