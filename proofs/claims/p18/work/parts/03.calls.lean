section FO
variable {l : Launch} {D : va_G} {cI cJ cB : ClassId} {t0 z : Nat} {tx : Nat → Nat} {ad : Nat → Nat} {L : List Nat} {E : Nat → va_E}
theorem f_ofW {y : MethodName} {ws ws' : List Cond} {rm : Room} {Qc : Array Value → State → Outcome → State → Prop} {mc ms : Nat} {cc : ByteArray} {maxL : Nat} {ret : Option FieldType} {av : List Value}
    (hy : plainName y.cls = true) (hw : ws = Cond.code y cc maxL ret :: ws') (hlen : (lg_sl av).length ≤ maxL)
    (body : ∀ (p : Program) (e : Env) (s : State) (m : MethodId) (args : Array Value) (below : List Frame) (meth : Method) (c : Code) (Q : State → Prop), p.tables.exec = Jvm.exec → c.code = cc → meth.sig.returnType = ret → c.maxLocals = maxL → (∀ w ∈ ws, w.before args s = true) → s.vm.findClass y.cls = some m.cls → meth.locks = false → meth.name = y.name → fG D cI cJ cB t0 z tx s → ∀ (H : Heap) (locs : List Loc), fI D (fA z) s.heap ad L E H locs → Q = MQ below Qc args s mc ms (fA z) → ∀ ls : Array Slot, lv_has ls maxL (lv_args 0 av) → W p l e rm s m args below meth c H locs 0 0 Q (F0 m 0 ls [])) : Met l y ws rm (va_Pc av (fPre D cI cJ cB t0 z tx ad L E)) Qc mc ms (fA z) := by
  refine Met.ofW (cc := cc) (maxL := maxL) (ret := ret) hy hw ?_
  intro p e s m args below meth c s₁ B hml hv
  obtain ⟨rfl, hG, hP, hD⟩ := hv
  rw [lg_entry_eq]
  exact body p e s m _ below meth c _ B.exec B.bytes B.returns hml (atoms_spec (ws := ws) B.pre) (findClass_of_methodNamed B.named) B.notSynchronized (name_of_methodNamed B.named B.method).1 hG _ _ ⟨hP, hD, va_S.rf⟩ rfl _ (lv_entry av (n := maxL) hlen)
/-- for a method of java.lang.Math: a method that no entry runs in its place -/
theorem f_ofWF {y : MethodName} {ws ws' : List Cond} {rm : Room} {Qc : Array Value → State → Outcome → State → Prop} {mc ms : Nat} {cc : ByteArray} {maxL : Nat} {ret : Option FieldType} {av : List Value}
    (hy : plainFor y = true) (hw : ws = Cond.code y cc maxL ret :: ws') (hlen : (lg_sl av).length ≤ maxL)
    (body : ∀ (p : Program) (e : Env) (s : State) (m : MethodId) (args : Array Value) (below : List Frame) (meth : Method) (c : Code) (Q : State → Prop), p.tables.exec = Jvm.exec → c.code = cc → meth.sig.returnType = ret → c.maxLocals = maxL → (∀ w ∈ ws, w.before args s = true) → s.vm.findClass y.cls = some m.cls → meth.locks = false → meth.name = y.name → fG D cI cJ cB t0 z tx s → ∀ (H : Heap) (locs : List Loc), fI D (fA z) s.heap ad L E H locs → Q = MQ below Qc args s mc ms (fA z) → ∀ ls : Array Slot, lv_has ls maxL (lv_args 0 av) → W p l e rm s m args below meth c H locs 0 0 Q (F0 m 0 ls [])) : Met l y ws rm (va_Pc av (fPre D cI cJ cB t0 z tx ad L E)) Qc mc ms (fA z) := by
  refine MetFree.of_bodySF (code := cc) (maxLocals := maxL) (ret := ret) hy ?_ ?_
  · intro args s m h hn
    obtain ⟨meth, c, h1, h2, h3, h4, h5, h6, -, -⟩ := Cond.code_spec hn (atoms_spec (ws := ws) h _ (by rw [hw]; exact List.mem_cons_self))
    exact ⟨meth, c, h1, h2, h3, h4, h5, h6⟩
  · intro p e s m args below meth c s₁ B hml hv _
    obtain ⟨rfl, hG, hP, hD⟩ := hv
    have hh0 : s₁.heap = s.heap := by rw [B.state]; rfl
    have K := body p e s m _ below meth c _ B.exec B.bytes B.returns hml (atoms_spec (ws := ws) B.pre) (findClass_of_methodNamed B.named) B.notSynchronized (name_of_methodNamed B.named B.method).1 hG _ _ ⟨hP, hD, va_S.rf⟩ rfl _ (lv_entry av (n := maxL) hlen)
    rw [← lg_entry_eq] at K
    obtain ⟨t, a1, o, b1, b2, b3⟩ := K s₁ hh0 (Stand.of_body B)
    exact ⟨t, o, a1, b1, b2, ⟨b3.1, b3.2⟩⟩
theorem f_ofX {y : MethodName} {ws ws' : List Cond} {rm : Room} {Qc : Array Value → State → Outcome → State → Prop} {XC : String → State → State → Prop} {mc ms : Nat} {cc : ByteArray} {maxL : Nat} {ret : Option FieldType} {av : List Value}
    (hy : plainName y.cls = true) (hw : ws = Cond.code y cc maxL ret :: ws') (hlen : (lg_sl av).length ≤ maxL)
    (body : ∀ (p : Program) (e : Env) (s : State) (m : MethodId) (args : Array Value) (below : List Frame) (meth : Method) (c : Code) (Q : State → Prop), p.tables.exec = Jvm.exec → c.code = cc → meth.sig.returnType = ret → c.maxLocals = maxL → (∀ x ∈ c.exceptionTable.toList, False) → (∀ w ∈ ws, w.before args s = true) → s.vm.findClass y.cls = some m.cls → meth.locks = false → fG D cI cJ cB t0 z tx s → ∀ (H : Heap) (locs : List Loc), fI D (fA z) s.heap ad L E H locs → Q = vx_MQ below Qc XC args s mc ms (fA z) → ∀ ls : Array Slot, lv_has ls maxL (lv_args 0 av) → W p l e rm s m args below meth c H locs 0 0 Q (F0 m 0 ls [])) : vx_Met l y ws rm (va_Pc av (fPre D cI cJ cB t0 z tx ad L E)) Qc XC mc ms (fA z) := by
  refine vx_ofW (cc := cc) (maxL := maxL) (ret := ret) hy hw ?_
  intro p e s m args below meth c s₁ B hml hT hv
  obtain ⟨rfl, hG, hP, hD⟩ := hv
  rw [lg_entry_eq]
  exact body p e s m _ below meth c _ B.exec B.bytes B.returns hml hT (atoms_spec (ws := ws) B.pre) (findClass_of_methodNamed B.named) B.notSynchronized hG _ _ ⟨hP, hD, va_S.rf⟩ rfl _ (lv_entry av (n := maxL) hlen)
end FO
theorem fG_A {D : va_G} {cI cJ cB : ClassId} {t0 z : Nat} {tx : Nat → Nat} {s : State} (h : fG D cI cJ cB t0 z tx s) : ∀ q : Nat, s.heap.size ≤ q → fA z q := fun _ hq => Nat.le_trans h.2.2.2.2.1 hq
theorem fB_of {D : va_G} {z : Nat} {H0 H : Heap} {locs : List Loc} {ad : Nat → Nat} {L : List Nat} {E : Nat → va_E} (hI : fI D (fA z) H0 ad L E H locs) : ∀ t : State, t.heap = H → fB D z ad L E t := fun t ht => ⟨by rw [ht]; exact hI.1, hI.2.1⟩
theorem fI_sub {D : va_G} {A : Nat → Prop} {H0 H : Heap} {locs : List Loc} {ad ad1 : Nat → Nat} {L L1 : List Nat} {E E1 : Nat → va_E} (hI : fI D A H0 ad1 (L ++ L1) E1 H locs) (h1 : ∀ q, q ∈ L → ad1 q = ad q) (h2 : ∀ q, q ∈ L → E1 q = E q) : fI D A H0 ad L E H locs := by
  have e : fW L ad E = fW L ad1 E1 := fW_congr (fun k hk => ⟨(h1 k hk).symm, (h2 k hk).symm⟩)
  have hk : ∀ k : Nat, k < (fW L ad1 E1).length → (fW (L ++ L1) ad1 E1)[k]? = (fW L ad1 E1)[k]? := fun k hk => by
    unfold fW at hk ⊢
    rw [List.map_append, List.getElem?_append_left hk]
  refine ⟨?_, ?_, hI.2.2⟩
  · rw [e]
    intro k q hq
    exact hI.1 k q (by rw [hk k (List.getElem?_eq_some_iff.mp hq).1]; exact hq)
  · rw [e]
    refine ⟨fun i j x y hi hj => hI.2.1.1 i j x y (by rw [hk i (List.getElem?_eq_some_iff.mp hi).1]; exact hi) (by rw [hk j (List.getElem?_eq_some_iff.mp hj).1]; exact hj), fun k q hq => hI.2.1.2 k q (by rw [hk k (List.getElem?_eq_some_iff.mp hq).1]; exact hq)⟩
section FE
variable {p : Program} {l : Launch} {e : Env} {R : Room} {s : State} {m : MethodId} {args : Array Value} {below : List Frame} {meth : Method} {c : Code} {H : Heap} {locs : List Loc} {cells slots mc ms : Nat} {Q : State → Prop}
variable {cc : ByteArray} {pc : Nat} {ls : Array Slot} {rest : List Value} {D : va_G} {z : Nat} {S : Type} {B : S → State → Prop}
theorem f_reti {post : Int32 → S → Prop} {v : Int32} (hQ : Q = MQ below (va_Qi post B (fA z)) args s mc ms (fA z)) (hexec : p.tables.exec = Jvm.exec) (hb : c.code = cc) (hr : meth.sig.returnType = some .int) (hlocks : meth.locks = false) (hS : va_S (fA z) s.heap H locs) (hc : cells ≤ mc) (hs : slots ≤ ms) (hdg : decode cc pc = .ok (.ireturn, 1)) (u : S) (hB : ∀ t : State, t.heap = H → B u t) (hp : post v u) : W p l e R s m args below meth c H locs cells slots Q (F0 m pc ls [.int v]) := by
  subst hQ
  refine W.widen hc hs ?_
  exact W.iret hexec hb hr (fun t ht hW => ⟨⟨v, u, rfl, hp, hB t ht⟩, hS.F ht⟩) hS.2.2 hdg hlocks
theorem f_retz {post : Int32 → S → Prop} {v : Int32} (hQ : Q = MQ below (va_Qi post B (fA z)) args s mc ms (fA z)) (hexec : p.tables.exec = Jvm.exec) (hb : c.code = cc) (hr : meth.sig.returnType = some .boolean) (hlocks : meth.locks = false) (hS : va_S (fA z) s.heap H locs) (hc : cells ≤ mc) (hs : slots ≤ ms) (hdg : decode cc pc = .ok (.ireturn, 1)) (hn : narrow .boolean (.int v) = .int v) (u : S) (hB : ∀ t : State, t.heap = H → B u t) (hp : post v u) : W p l e R s m args below meth c H locs cells slots Q (F0 m pc ls [.int v]) := by
  subst hQ
  refine W.widen hc hs ?_
  exact W.zret hexec hb hr hn (fun t ht hW => ⟨⟨v, u, rfl, hp, hB t ht⟩, hS.F ht⟩) hS.2.2 hdg hlocks
theorem f_retl {post : Int64 → S → Prop} {v : Int64} (hQ : Q = MQ below (va_Ql post B (fA z)) args s mc ms (fA z)) (hexec : p.tables.exec = Jvm.exec) (hb : c.code = cc) (hr : meth.sig.returnType = some .long) (hlocks : meth.locks = false) (hS : va_S (fA z) s.heap H locs) (hc : cells ≤ mc) (hs : slots ≤ ms) (hdg : decode cc pc = .ok (.lreturn, 1)) (u : S) (hB : ∀ t : State, t.heap = H → B u t) (hp : post v u) : W p l e R s m args below meth c H locs cells slots Q (F0 m pc ls [.long v]) := by
  subst hQ
  refine W.widen hc hs ?_
  exact W.lret hexec hb hr (fun t ht hW => ⟨⟨v, u, rfl, hp, hB t ht⟩, hS.F ht⟩) hS.2.2 hdg hlocks
theorem f_retd {post : UInt64 → S → Prop} {v : UInt64} (hQ : Q = MQ below (va_Qd post B (fA z)) args s mc ms (fA z)) (hexec : p.tables.exec = Jvm.exec) (hb : c.code = cc) (hr : meth.sig.returnType = some .double) (hlocks : meth.locks = false) (hS : va_S (fA z) s.heap H locs) (hc : cells ≤ mc) (hs : slots ≤ ms) (hdg : decode cc pc = .ok (.dreturn, 1)) (u : S) (hB : ∀ t : State, t.heap = H → B u t) (hp : post v u) : W p l e R s m args below meth c H locs cells slots Q (F0 m pc ls [.double v]) := by
  subst hQ
  refine W.widen hc hs ?_
  exact W.dret hexec hb hr (fun t ht hW => ⟨⟨v, u, rfl, hp, hB t ht⟩, hS.F ht⟩) hS.2.2 hdg hlocks
theorem f_retv {post : S → Prop} (hQ : Q = MQ below (va_Qv post B (fA z)) args s mc ms (fA z)) (hexec : p.tables.exec = Jvm.exec) (hb : c.code = cc) (hr : meth.sig.returnType = none) (hlocks : meth.locks = false) (hS : va_S (fA z) s.heap H locs) (hc : cells ≤ mc) (hs : slots ≤ ms) (hdg : decode cc pc = .ok (.return_, 1)) (u : S) (hB : ∀ t : State, t.heap = H → B u t) (hp : post u) : W p l e R s m args below meth c H locs cells slots Q (F0 m pc ls []) := by
  subst hQ
  refine W.widen hc hs ?_
  exact W.vret hexec hb hr (fun t ht hW => ⟨⟨u, rfl, hp, hB t ht⟩, hS.F ht⟩) hS.2.2 hdg hlocks
end FE
theorem bl_t {c : Prop} [Decidable c] {r : Int32} (h : r = if c then 1 else 0) (n : ¬ r = 0) : c := by
  by_cases hc : c
  · exact hc
  · rw [if_neg hc] at h; exact absurd h n
theorem bl_f {c : Prop} [Decidable c] {r : Int32} (h : r = if c then 1 else 0) (n : r = 0) : ¬ c := by
  intro hc
  rw [if_pos hc] at h
  rw [h] at n
  exact absurd n (by decide)
theorem bl_n {c : Prop} [Decidable c] {r : Int32} (h : r = if c then 1 else 0) : narrow .boolean (.int r) = .int r := by
  by_cases hc : c
  · rw [if_pos hc] at h; rw [h]; rfl
  · rw [if_neg hc] at h; rw [h]; rfl
theorem bn_of {r : Int32} (h : r = 0 ∨ r = 1) : narrow .boolean (.int r) = .int r := by rcases h with h | h <;> rw [h] <;> rfl
theorem bf_of {r : Int32} (h : r = 0 ∨ r = 1) : fits .boolean (.int r) = true := by rcases h with h | h <;> rw [h] <;> rfl
/-- an index that is not negative and below n -/
theorem ix_of {x : Int32} {n : Nat} (h0 : 0 ≤ x.toInt) (h1 : x.toInt < n) : vp_in x n := vp_in_iff.mpr ⟨h0, h1⟩
theorem i_nle {x y : Int32} : ¬ x ≤ y ↔ y < x := by
  rw [Int32.le_iff_toInt_le, Int32.lt_iff_toInt_lt]; omega
theorem i_nlt {x y : Int32} : ¬ x < y ↔ y ≤ x := by
  rw [Int32.le_iff_toInt_le, Int32.lt_iff_toInt_lt]; omega
theorem fW_addr {A : Nat → Prop} {L : List Nat} {ad : Nat → Nat} {E E1 : Nat → va_E} (h : va_D A (fW L ad E)) : va_D A (fW L ad E1) := by
  have key : ∀ (i : Nat) (q : Nat × va_E), (fW L ad E1)[i]? = some q → ∃ q0 : Nat × va_E, (fW L ad E)[i]? = some q0 ∧ q0.1 = q.1 := by
    intro i q hq
    simp only [fW, List.getElem?_map] at hq ⊢
    cases hb : L[i]? with
    | none => rw [hb] at hq; cases hq
    | some b =>
      rw [hb] at hq
      cases hq
      exact ⟨_, rfl, rfl⟩
  refine ⟨fun i j x y hi hj hxy => ?_, fun k q hk => ?_⟩
  · obtain ⟨x0, h1, h2⟩ := key i x hi
    obtain ⟨y0, h3, h4⟩ := key j y hj
    exact h.1 i j x0 y0 h1 h3 (h2.trans (hxy.trans h4.symm))
  · obtain ⟨q0, h1, h2⟩ := key k q hk
    rw [← h2]
    exact h.2 k q0 h1
theorem arr_same {cI : ClassId} {n : Nat} {f g : Nat → Int32} (h : ∀ j, j < n → f j = g j) : vp_cell cI (n, .inl f) = vp_cell cI (n, .inl g) := by
  rw [vp_cell_i, vp_cell_i]
  unfold arrV
  congr 1
  apply congrArg
  funext j
  exact congrArg Value.int (h j.val j.isLt)
theorem fI_arr {D : va_G} {A : Nat → Prop} {H0 H : Heap} {locs : List Loc} {ad : Nat → Nat} {L : List Nat} {E : Nat → va_E} (hI : fI D A H0 ad L E H locs) {k n : Nat} {cI : ClassId} {f g : Nat → Int32} (he : E k = .inl (cI, n, .inl g)) (h : ∀ j, j < n → g j = f j) : ∃ E1 : Nat → va_E, E1 k = .inl (cI, n, .inl f) ∧ (∀ q, q ≠ k → E1 q = E q) ∧ fI D A H0 ad L E1 H locs := by
  refine ⟨va_up E k (.inl (cI, n, .inl f)), va_up_self _ _ _, fun q hq => va_up_ne _ _ hq, fun i q hi => ?_, fW_addr hI.2.1, hI.2.2⟩
  simp only [fW, List.getElem?_map] at hi
  cases hb : L[i]? with
  | none => rw [hb] at hi; cases hi
  | some b =>
    rw [hb] at hi
    cases hi
    have h1 := hI.1 i (ad b, E b) (fW_at hb)
    show va_at D vwCl (ad b, va_up E k (.inl (cI, n, .inl f)) b) H
    by_cases hbk : b = k
    · subst hbk
      rw [he] at h1
      rw [va_up_self]
      show H[ad b]? = some (vp_cell cI (n, .inl f))
      rw [← arr_same h]
      exact h1
    · rw [va_up_ne _ _ hbk]
      exact h1
section FC
variable {p : Program} {l : Launch} {e : Env} {R : Room} {s : State} {m : MethodId} {args : Array Value} {below : List Frame} {meth : Method} {c : Code} {H H0 : Heap} {locs : List Loc} {cells slots : Nat} {Q : State → Prop}
variable {cc : ByteArray} {pc : Nat} {ls : Array Slot} {rest st0 : List Value} {D : va_G} {A : Nat → Prop} {tys : List (ClassId × FieldType)} {ad : Nat → Nat} {L : List Nat} {E : Nat → va_E}
/-- a whole array copied onto another of its length -/
theorem f_copyA (hexec : p.tables.exec = Jvm.exec) (hb : c.code = cc) (hml : c.maxLocals = ls.size) {own : String} {index : Nat} (hown : s.vm.findClass own = some m.cls) (hlink : (Cond.methodLink own index arraycopyName).before args s = true) (hnat : (Cond.native arraycopyName).before args s = true) (hstat : (Cond.static arraycopyName).before args s = true) (hini : (Cond.initialized "java/lang/System").before args s = true)
    {cI cJ cB : ClassId} (hK : va_K D vwCl (fTys cI cJ cB) s) (hI : fI D A H0 ad L E H locs) {k0 k1 a0 a1 : Nat} (ha0 : ad k0 = a0) (ha1 : ad k1 = a1) (hk0 : k0 ∈ L) (hk1 : k1 ∈ L) {N : Nat} {f g : Nat → Int32} (he0 : E k0 = .inl (cI, N, .inl f)) (he1 : E k1 = .inl (cI, N, .inl g)) {n : Int32} (h3 : ¬ n < 0) (h4 : n.toNatClampNeg = N)
    (hframes : 1 ≤ R.frames) (hlocals : (rest.map fun v => v.category).sum + (nativeFrameWords "java/lang/System" "arraycopy" 5 + 11) ≤ R.locals) (hdg : decode cc pc = .ok (.invokestatic index, 3))
    (kk : ∀ (E1 : Nat → va_E) (H1 : Heap) (locs1 : List Loc), E1 k1 = .inl (cI, N, .inl f) → (∀ q, q ≠ k1 → E1 q = E q) → fI D A H0 ad L E1 H1 locs1 → W p l e R s m args below meth c H1 locs1 cells slots Q (F0 m (pc + 3) ls rest)) : W p l e R s m args below meth c H locs cells slots Q (F0 m pc ls (.int n :: .int 0 :: .ref a1 :: .int 0 :: .ref a0 :: rest)) := by
  have z0 : (0 : Int32).toNatClampNeg = 0 := by decide
  refine f_copy hexec hb hml hown hlink hnat hstat hini hK hI ha0 ha1 hk0 hk1 he0 he1 (by decide) (by decide) h3 (by rw [z0, h4]; omega) (by rw [z0, h4]; omega) hframes hlocals hdg (fun E1 H1 locs1 h5 h6 hI1 => ?_)
  rw [z0, h4] at h5
  obtain ⟨E2, g1, g2, g3⟩ := fI_arr (f := f) hI1 h5 (fun j hj => by simp [va_cpy, hj])
  exact kk E2 H1 locs1 g1 (fun q hq => (g2 q hq).trans (h6 q hq)) g3
end FC
