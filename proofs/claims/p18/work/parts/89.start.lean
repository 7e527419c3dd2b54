/-! ===== what the methods need of the machine, out of what the Statement gives of the start ===== -/
theorem fNest_to {w : Cond} (hw : w ∈ fNest) {A : Array Value} {U : State} (h : w.before A U = true) : va_Nw w U := by
  rcases fNest_ok w hw with ⟨a, i, x, k, rfl⟩ | ⟨a, b, rfl⟩ | ⟨x, rfl⟩ | ⟨x, rfl⟩ | ⟨x, rfl⟩
  · exact va_Nw.of rfl h
  · exact va_Nw.of rfl h
  · exact va_Nw.of rfl h
  · exact va_AO.of h
  · exact over_moved (a := A) (a' := #[]) (Vm.Alike.refl _) h
set_option maxRecDepth 100000 in
theorem fNest_tbl : ∀ w ∈ fNest, w ∈ lw_tbl := by decide +kernel
set_option maxRecDepth 100000 in
theorem fTexts_tbl : ∀ q ∈ fTexts, Cond.stringRef RX3 q.1 q.2 ∈ lw_tbl := by decide +kernel
theorem arr_of {s : State} {A : Array Value} {ty : FieldType} (h : (Cond.arrayClass ty).before A s = true) : ∃ cA : ClassId, ArrOfT s cA ty ∧ s.vm.findClass ("[" ++ ty.toString) = some cA := by
  obtain ⟨cA, kA, comp, hf, hk, hkind⟩ := Cond.arrayClass_spec h
  exact ⟨cA, fun N z => ⟨(fun k h => by cases h), kA, hk, comp, hkind⟩, hf⟩
set_option maxHeartbeats 4000000 in
set_option maxRecDepth 100000 in
theorem fG_start {s : State} {b L : Nat} {xs : Nat → Int32} (hL : L ≤ 260) (hX : va_X b L xs s s.heap) (hbl : b < s.heap.size) (hts : ∀ w ∈ lw_tbl, w.before #[Value.ref b] s = true) (hgv : (Jvm.Cond.and given_1 narrow_1).before #[Value.ref b] s = true) : ∃ (D : va_G) (cI cJ cB : ClassId) (tx : Nat → Nat), fG D cI cJ cB b s.heap.size tx s := by
  have hA : ∀ a : Nat, a < s.heap.size → ¬ fA s.heap.size a := fun a h => Nat.not_le.mpr h
  have hs := flat_of_before _ hgv
  obtain ⟨c0, i0, k0⟩ := u_known (C := RX0) (T := TX0) (N := 12) (n := 12) hts inX0 (hts (.instantiable RX0 12) (by decide +kernel))
  obtain ⟨c1, i1, k1⟩ := u_known (C := RX1) (T := TX1) (N := 3) (n := 3) hts inX1 (hts (.instantiable RX1 3) (by decide +kernel))
  obtain ⟨c2, i2, k2⟩ := u_known (C := RX2) (T := TX2) (N := 4) (n := 4) hts inX2 (hts (.instantiable RX2 4) (by decide +kernel))
  obtain ⟨c3, i3, k3⟩ := u_known (C := RX3) (T := TX3) (N := 3) (n := 3) hts inX3 (hts (.instantiable RX3 3) (by decide +kernel))
  obtain ⟨c4, i4, k4⟩ := u_known (C := RX4) (T := TX4) (N := 6) (n := 6) hts inX4 (hts (.instantiable RX4 6) (by decide +kernel))
  obtain ⟨dC, dI, hKc⟩ : ∃ (dC : Nat → ClassId) (dI : Nat → Nat → Nat), ∀ (k : Nat) (q : vw_C), vwCl[k]? = some q → u_Kn s q.1 q.2.1 q.2.2 (dC k) (dI k) := by
    refine ⟨fun k => if k = 0 then c0 else if k = 1 then c1 else if k = 2 then c2 else if k = 3 then c3 else c4, fun k => if k = 0 then i0 else if k = 1 then i1 else if k = 2 then i2 else if k = 3 then i3 else i4, ?_⟩
    intro k q hq
    match k, hq with
    | 0, hq => cases hq; exact k0
    | 1, hq => cases hq; exact k1
    | 2, hq => cases hq; exact k2
    | 3, hq => cases hq; exact k3
    | 4, hq => cases hq; exact k4
    | k + 5, hq => simp [vwCl] at hq
  obtain ⟨cI, aI, fI1⟩ := arr_of (hts (.arrayClass .int) (by decide +kernel))
  obtain ⟨compJ, cJ, kJ, j1, -, j3, j4, j5⟩ := arrayOver_specB (hts (.arrayOver (.array .int)) (fNest_tbl _ (by simp [fNest])))
  obtain ⟨compB, cB, kB, b1, -, b3, b4, b5⟩ := Cond.arrayOver_spec (hts (.arrayOver (.object RX0)) (fNest_tbl _ (by simp [fNest])))
  have hK : va_K (dC, dI) vwCl (fTys cI cJ cB) s := by
    refine ⟨hKc, fun k q hq => ?_⟩
    match k, hq with
    | 0, hq => cases hq; exact ⟨aI, fI1⟩
    | 1, hq => cases hq; exact ⟨fun N z => ⟨(fun k h => by cases h), kJ, j3, compJ, j4⟩, j5⟩
    | 2, hq => cases hq; exact ⟨fun N z => ⟨(fun k h => by cases h), kB, b3, compB, b4⟩, kB, compB, b3, b4, b1, b5⟩
    | k + 3, hq => simp at hq
  have htxt : ∀ q ∈ fTexts, (Cond.stringRef RX3 q.1 q.2).before #[] s = true ∧ ∃ a, (Term.string RX3 q.1).eval #[] s none [] s = some (.ref a) := fun q hq => by
    have hw := hts _ (fTexts_tbl q hq)
    obtain ⟨-, -, -, a, -, -, -, -, -, he⟩ := Cond.stringRef_spec k3.2.1 hw
    have h2 : vk_R RX3 q.1 q.2 a s := vk_R.of hw he
    exact ⟨h2.1, a, h2.2⟩
  obtain ⟨tx, htx⟩ : ∃ tx : Nat → Nat, ∀ q ∈ fTexts, vk_R RX3 q.1 q.2 (tx q.1) s := by
    classical
    refine ⟨fun k => if h : ∃ a, (Term.string RX3 k).eval #[] s none [] s = some (.ref a) then Classical.choose h else 0, fun q hq => ?_⟩
    obtain ⟨h1, h2⟩ := htxt q hq
    refine ⟨h1, ?_⟩
    show (Term.string RX3 q.1).eval #[] s none [] s = some (.ref (if h : ∃ a, (Term.string RX3 q.1).eval #[] s none [] s = some (.ref a) then Classical.choose h else 0))
    rw [dif_pos h2]
    exact Classical.choose_spec h2
  refine ⟨(dC, dI), cI, cJ, cB, tx, hK, fun w hw => fNest_to hw (hts w (fNest_tbl w hw)), ⟨L, xs, hL, hX⟩, hbl, Nat.le_refl _, ?_, ?_, htx⟩
  · exact vx_Zqof (hts (.laysStatic Bundle.tN "UNASSIGNED_STACK" Bundle.steD) (by decide +kernel)) (hts (.initialized Bundle.tN) (by decide +kernel)) (hs (.isRef (.static Bundle.tN "UNASSIGNED_STACK" Bundle.steD)) (by decide +kernel)) hA
  · exact vx_Zqof (hts (.laysStatic Bundle.tN "SUPPRESSED_SENTINEL" Bundle.listD) (by decide +kernel)) (hts (.initialized Bundle.tN) (by decide +kernel)) (hs (.isRef (.static Bundle.tN "SUPPRESSED_SENTINEL" Bundle.listD)) (by decide +kernel)) hA
