def fNm : List String := ["java/lang/RuntimeException", "java/lang/Exception"]
/-- what a method of the class says when it throws: the exception's name is ok, and the world is as it was -/
def f_X (D : va_G) (z : Nat) (ad : Nat → Nat) (L : List Nat) (E : Nat → va_E) (ok : String → Prop) : String → State → State → Prop := vx_X (fun _ : Unit => True) (fun En _ t => ok En ∧ fB D z ad L E t) (fA z)
theorem vxg_34 : ∀ w ∈ Cond.classLink RX3 30 fIO :: Cond.initialized fIO :: vx_atS RX3 34 fIO fNm, vx_ot w = true := by decide +kernel
theorem vxg_41 : ∀ w ∈ Cond.classLink RX3 37 fIA :: Cond.initialized fIA :: vx_atS RX3 41 fIA fNm, vx_ot w = true := by decide +kernel
theorem vxg_58 : ∀ w ∈ Cond.classLink RX3 54 fIS :: Cond.initialized fIS :: vx_atS RX3 58 fIS fNm, vx_ot w = true := by decide +kernel
theorem vxn_34 : ∀ w ∈ (vx_atS RX3 34 fIO fNm).filter (fun w => !goodWord w), w ∈ fNest := by decide +kernel
theorem vxn_41 : ∀ w ∈ (vx_atS RX3 41 fIA fNm).filter (fun w => !goodWord w), w ∈ fNest := by decide +kernel
theorem vxn_58 : ∀ w ∈ (vx_atS RX3 58 fIS fNm).filter (fun w => !goodWord w), w ∈ fNest := by decide +kernel
theorem vxf_n : ∀ n ∈ fNm, Bundle.fit n = true := by decide +kernel
theorem vxf_IO : Bundle.fit fIO = true := by decide +kernel
theorem vxf_IA : Bundle.fit fIA = true := by decide +kernel
theorem vxf_IS : Bundle.fit fIS = true := by decide +kernel
theorem fNest_use {w : Cond} (hw : w ∈ fNest) {A : Array Value} {U : State} (h : va_Nw w U) : w.before A U = true := by
  rcases fNest_ok w hw with ⟨a, i, x, k, rfl⟩ | ⟨a, b, rfl⟩ | ⟨x, rfl⟩ | ⟨x, rfl⟩ | ⟨t, rfl⟩
  · exact va_Nw.use rfl h
  · exact va_Nw.use rfl h
  · exact va_Nw.use rfl h
  · exact va_AO.use h
  · exact va_AOA.use h
section FX
variable {p : Program} {l : Launch} {e : Env} {R : Room} {s : State} {m : MethodId} {args : Array Value} {below : List Frame} {meth : Method} {c : Code} {H : Heap} {locs : List Loc} {cells slots mc ms : Nat} {Q : State → Prop}
variable {cc : ByteArray} {pc : Nat} {ls : Array Slot} {rest : List Value} {D : va_G} {z : Nat} {ad : Nat → Nat} {L : List Nat} {E : Nat → va_E}
theorem f_throw {cI cJ cB : ClassId} {t0 : Nat} {tx : Nat → Nat} {Qc : Array Value → State → Outcome → State → Prop} {ok : String → Prop} {cls text : String} {ik is ic : Nat}
    (hQ : Q = vx_MQ below Qc (f_X D z ad L E ok) args s mc ms (fA z)) (hok : ok cls) (hl : l.stackTraces = false) (hexec : p.tables.exec = Jvm.exec) (hb : c.code = cc) (hG : fG D cI cJ cB t0 z tx s) (hI : fI D (fA z) s.heap ad L E H locs)
    (hown : s.vm.findClass RX3 = some m.cls) (hT : ∀ x ∈ c.exceptionTable.toList, False) (hlocks : meth.locks = false) (hsize : ls.size = c.maxLocals)
    (hk : (Cond.classLink RX3 ik cls).before args s = true) (hini : (Cond.initialized cls).before args s = true) (hat1 : ∀ w ∈ (vx_atS RX3 ic cls fNm).filter goodWord, w.before args s = true)
    (hcls : Bundle.fit cls = true) (hat2 : ∀ w ∈ (vx_atS RX3 ic cls fNm).filter (fun w => !goodWord w), w ∈ fNest) (hgood : ∀ w ∈ Cond.classLink RX3 ik cls :: Cond.initialized cls :: vx_atS RX3 ic cls fNm, vx_ot w = true) (htx : (is, text) ∈ fTexts)
    (d0 : decode cc pc = .ok (.new ik, 3)) (d3 : decode cc (pc + 3) = .ok (.dup, 1)) (d4 : decode cc (pc + 4) = .ok (.ldc is, 2)) (d6 : decode cc (pc + 6) = .ok (.invokespecial ic, 3)) (d9 : decode cc (pc + 9) = .ok (.athrow, 1))
    (hRframes : fNm.length + 3 < R.frames) (hRlocals : (rest.map fun v => v.category).sum + (13 * (fNm.length + 1) + 43) ≤ R.locals) (hRcells : cells + 1 ≤ R.cells) (hRslots : slots + 6 ≤ R.slots) (hc : cells + 1 ≤ mc) (hs : slots + 6 ≤ ms) :
    W p l e R s m args below meth c H locs cells slots Q (F0 m pc ls rest) := by
  subst hQ
  refine vx_throwS hexec hb hl hown hcls vxf_n hk hini (hG.2.2.2.2.2.2.2 (is, text) htx) (vx_hat hat1 hat2 (fun w hw => fNest_use hw (hG.2.1 w hw))) hgood hG.2.2.2.2.2.1 hG.2.2.2.2.2.2.1 hI.2.2 hsize d0 d3 d4 d6 d9 (fun x hx => (hT x hx).elim) hRframes hRlocals hRcells hRslots hlocks (fun t _ h1 h2 => ⟨(), trivial, ⟨hok, ?_, hI.2.1⟩, Nat.le_trans hI.2.2.1 h1, fun q hq1 hq2 => (h2 q (Nat.lt_of_lt_of_le hq1 hI.2.2.1)).trans (hI.2.2.2.1 q hq1 hq2)⟩) hI.2.2.2.2 hc hs
  exact hI.1.kept (fun k q hq => h2 q.1 (hI.1 k q hq).lt)
theorem f_xreti {S : Type} {B : S → State → Prop} {XC : String → State → State → Prop} {post : Int32 → S → Prop} {v : Int32} (hQ : Q = vx_MQ below (va_Qi post B (fA z)) XC args s mc ms (fA z)) (hexec : p.tables.exec = Jvm.exec) (hb : c.code = cc) (hr : meth.sig.returnType = some .int) (hlocks : meth.locks = false) (hS : va_S (fA z) s.heap H locs) (hc : cells ≤ mc) (hs : slots ≤ ms) (hdg : decode cc pc = .ok (.ireturn, 1)) (u : S) (hB : ∀ t : State, t.heap = H → B u t) (hp : post v u) : W p l e R s m args below meth c H locs cells slots Q (F0 m pc ls [.int v]) := by
  subst hQ
  exact vx_ret (f_reti rfl hexec hb hr hlocks hS hc hs hdg u hB hp)
end FX
