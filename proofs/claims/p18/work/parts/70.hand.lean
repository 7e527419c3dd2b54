/-! ===== methods with handlers, calls that may throw ===== -/
section FH
variable {l : Launch} {D : va_G} {cI cJ cB : ClassId} {t0 z : Nat} {tx ad : Nat → Nat} {L : List Nat} {E : Nat → va_E}
theorem f_ofWH {y : MethodName} {ws ws' : List Cond} {rm : Room} {Qc : Array Value → State → Outcome → State → Prop} {mc ms : Nat} {cc : ByteArray} {maxL : Nat} {ret : Option FieldType} {av : List Value} {hh : List (Nat × Nat × Nat × Nat)}
    (hy : plainName y.cls = true) (hw : ws = Cond.codeWith y cc maxL ret hh :: ws') (hlen : (lg_sl av).length ≤ maxL)
    (body : ∀ (p : Program) (e : Env) (s : State) (m : MethodId) (args : Array Value) (below : List Frame) (meth : Method) (c : Code) (Q : State → Prop), p.tables.exec = Jvm.exec → c.code = cc → meth.sig.returnType = ret → c.maxLocals = maxL → c.exceptionTable.toList = tableOf hh → (∀ w ∈ ws, w.before args s = true) → s.vm.findClass y.cls = some m.cls → meth.locks = false → fG D cI cJ cB t0 z tx s → ∀ (H : Heap) (locs : List Loc), fI D (fA z) s.heap ad L E H locs → Q = MQ below Qc args s mc ms (fA z) → ∀ ls : Array Slot, lv_has ls maxL (lv_args 0 av) → W p l e rm s m args below meth c H locs 0 0 Q (F0 m 0 ls [])) : Met l y ws rm (va_Pc av (fPre D cI cJ cB t0 z tx ad L E)) Qc mc ms (fA z) := by
  refine va_MetW (cc := cc) (maxL := maxL) (ret := ret) (hh := hh) hy hw ?_
  intro p e s m args below meth c s₁ B hml hv
  obtain ⟨rfl, hG, hP, hD⟩ := hv
  have hws := atoms_spec (ws := ws) B.pre
  rw [lg_entry_eq]
  exact body p e s m _ below meth c _ B.exec B.bytes B.returns hml (vx_table (x := y) B (hws _ (by rw [hw]; exact List.mem_cons_self))) hws (findClass_of_methodNamed B.named) B.notSynchronized hG _ _ ⟨hP, hD, va_S.rf⟩ rfl _ (lv_entry av (n := maxL) hlen)
end FH
section FXC
variable {p : Program} {l : Launch} {e : Env} {R : Room} {s : State} {m : MethodId} {args : Array Value} {below : List Frame} {meth : Method} {c : Code} {H H0 : Heap} {locs : List Loc} {cells slots : Nat} {Q : State → Prop}
variable {pc : Nat} {ls : Array Slot} {rest st0 : List Value} {D : va_G} {z : Nat} {ad : Nat → Nat} {L : List Nat} {E : Nat → va_E}
theorem f_xcalli {mc ms : Nat} {a : Array Value} {post : Int32 → (Nat → va_E) → Prop} {ok : String → Prop} (hr : vx_Run p l e R s m args below meth c H locs cells slots mc ms (F0 m pc ls st0) rest (va_Qi post (fB D z ad L) (fA z) a) (f_X D z ad L E ok) (fA z)) (hI : fI D (fA z) H0 ad L E H locs)
    (kx : ∀ (En : String) (ce : Cell) (q9 : Addr) (H1 : Heap) (locs1 : List Loc), ok En → fI D (fA z) H0 ad L E H1 locs1 → H1[q9]? = some ce → ce.vm = .none → s.vm.findClass En = some ce.cls → vx_W p l e R s m args below meth c H1 locs1 (cells + mc) (slots + ms) Q (F0 m pc ls rest) q9)
    (kk : ∀ (r : Int32) (E1 : Nat → va_E) (H1 : Heap) (locs1 : List Loc), post r E1 → fI D (fA z) H0 ad L E1 H1 locs1 → W p l e R s m args below meth c H1 locs1 (cells + mc) (slots + ms) Q (F0 m (pc + 3) ls (.int r :: rest))) : W p l e R s m args below meth c H locs cells slots Q (F0 m pc ls st0) := by
  unfold f_X at hr
  exact vx_calli hr hI.2.2 (fun q _ h => h) (fun q h => h) (fun q _ h => h)
    (fun En ce q9 u t H1 locs1 ht _ _ hb _ _ hS1 h1 h2 h3 => kx En ce q9 H1 locs1 hb.1 ⟨by rw [← ht]; exact hb.2.1, hb.2.2, hS1⟩ h1 h2 h3)
    (fun r u t H1 locs1 ht _ hp hb _ _ hS1 => kk r u H1 locs1 hp ⟨by rw [← ht]; exact hb.1, hb.2, hS1⟩)
end FXC
theorem x_at.kept {cI cB : ClassId} {ad : Nat → Nat} {E E1 : Nat → va_E} {w p g : Nat → Int32} {nw n T : Nat} {B F : Nat → Nat → Int32} (h : x_at cI cB ad E w p g nw n T B F) (hk : ∀ q : Nat, q < 44 → E1 q = E q) : x_at cI cB ad E1 w p g nw n T B F := by
  obtain ⟨h0, ⟨h1, h2, h3, h4⟩, h5, nt, Tt, Bt, Ft, hnt, h6⟩ := h
  exact ⟨(hk _ (by omega)).trans h0, ⟨(hk _ (by omega)).trans h1, (hk _ (by omega)).trans h2, (hk _ (by omega)).trans h3, (hk _ (by omega)).trans h4⟩, h5.kept (fun q a b => hk q (by omega)), nt, Tt, Bt, Ft, hnt, h6.kept (fun q a b => hk q (by omega))⟩
