section
-- ===== PART A: goes FIRST, ahead of the names: the tables' words, and 'selects' of the private methods out of them =====
/-- a private method of a class that the tables say can be made, by its rows of tables_1 -/
def lw_okq (q : MethodName × Nat) : Prop := (q.1.cls ≠ "java/lang/invoke/MethodHandle" ∧ q.1.cls ≠ "java/lang/invoke/VarHandle") ∧ Cond.instantiable q.1.cls q.2 ∈ tables_1 ∧ Cond.privateMethod q.1 ∈ tables_1 ∧ Cond.instanceMethod q.1 ∈ tables_1
theorem lw_p0 : lw_okq (⟨"java/lang/Throwable", "fillInStackTrace", "(I)Ljava/lang/Throwable;"⟩, 6) := ⟨⟨by decide +kernel, by decide +kernel⟩, List.mem_of_getElem? (i := 173) (by decide +kernel), List.mem_of_getElem? (i := 171) (by decide +kernel), List.mem_of_getElem? (i := 172) (by decide +kernel)⟩
theorem lw_p1 : lw_okq (⟨"CoracleRace", "countIn", "(LCoracleRace$Fleet;I)I"⟩, 3) := ⟨⟨by decide +kernel, by decide +kernel⟩, List.mem_of_getElem? (i := 16) (by decide +kernel), List.mem_of_getElem? (i := 217) (by decide +kernel), List.mem_of_getElem? (i := 218) (by decide +kernel)⟩
theorem lw_p2 : lw_okq (⟨"CoracleRace$Boat", "strokeIn", "(I)I"⟩, 12) := ⟨⟨by decide +kernel, by decide +kernel⟩, List.mem_of_getElem? (i := 56) (by decide +kernel), List.mem_of_getElem? (i := 282) (by decide +kernel), List.mem_of_getElem? (i := 283) (by decide +kernel)⟩
theorem lw_p3 : lw_okq (⟨"CoracleRace$Boat", "forceOf", "(I)I"⟩, 12) := ⟨⟨by decide +kernel, by decide +kernel⟩, List.mem_of_getElem? (i := 56) (by decide +kernel), List.mem_of_getElem? (i := 289) (by decide +kernel), List.mem_of_getElem? (i := 290) (by decide +kernel)⟩
theorem lw_p4 : lw_okq (⟨"CoracleRace$Boat", "pushOf", "(I)I"⟩, 12) := ⟨⟨by decide +kernel, by decide +kernel⟩, List.mem_of_getElem? (i := 56) (by decide +kernel), List.mem_of_getElem? (i := 293) (by decide +kernel), List.mem_of_getElem? (i := 294) (by decide +kernel)⟩
theorem lw_p5 : lw_okq (⟨"CoracleRace$Boat", "drift", "()V"⟩, 12) := ⟨⟨by decide +kernel, by decide +kernel⟩, List.mem_of_getElem? (i := 56) (by decide +kernel), List.mem_of_getElem? (i := 300) (by decide +kernel), List.mem_of_getElem? (i := 301) (by decide +kernel)⟩
theorem lw_p6 : lw_okq (⟨"CoracleRace$Boat", "advance", "(LCoracleRace$River;I)V"⟩, 12) := ⟨⟨by decide +kernel, by decide +kernel⟩, List.mem_of_getElem? (i := 56) (by decide +kernel), List.mem_of_getElem? (i := 307) (by decide +kernel), List.mem_of_getElem? (i := 308) (by decide +kernel)⟩
theorem lw_p7 : lw_okq (⟨"CoracleRace$Boat", "soak", "(I)V"⟩, 12) := ⟨⟨by decide +kernel, by decide +kernel⟩, List.mem_of_getElem? (i := 56) (by decide +kernel), List.mem_of_getElem? (i := 321) (by decide +kernel), List.mem_of_getElem? (i := 322) (by decide +kernel)⟩
theorem lw_p8 : lw_okq (⟨"CoracleRace", "placeWith", "(III)I"⟩, 3) := ⟨⟨by decide +kernel, by decide +kernel⟩, List.mem_of_getElem? (i := 16) (by decide +kernel), List.mem_of_getElem? (i := 353) (by decide +kernel), List.mem_of_getElem? (i := 354) (by decide +kernel)⟩
theorem lw_p9 : lw_okq (⟨"CoracleRace", "digestWith", "(JLCoracleRace$Boat;)J"⟩, 3) := ⟨⟨by decide +kernel, by decide +kernel⟩, List.mem_of_getElem? (i := 16) (by decide +kernel), List.mem_of_getElem? (i := 375) (by decide +kernel), List.mem_of_getElem? (i := 376) (by decide +kernel)⟩
def lw_privs_1 : List (MethodName × Nat) := [(⟨"java/lang/Throwable", "fillInStackTrace", "(I)Ljava/lang/Throwable;"⟩, 6), (⟨"CoracleRace", "countIn", "(LCoracleRace$Fleet;I)I"⟩, 3), (⟨"CoracleRace$Boat", "strokeIn", "(I)I"⟩, 12), (⟨"CoracleRace$Boat", "forceOf", "(I)I"⟩, 12), (⟨"CoracleRace$Boat", "pushOf", "(I)I"⟩, 12), (⟨"CoracleRace$Boat", "drift", "()V"⟩, 12), (⟨"CoracleRace$Boat", "advance", "(LCoracleRace$River;I)V"⟩, 12), (⟨"CoracleRace$Boat", "soak", "(I)V"⟩, 12), (⟨"CoracleRace", "placeWith", "(III)I"⟩, 3), (⟨"CoracleRace", "digestWith", "(JLCoracleRace$Boat;)J"⟩, 3)]
theorem lw_r1 : ∀ q ∈ lw_privs_1, lw_okq q := List.forall_mem_cons.mpr ⟨lw_p0, List.forall_mem_cons.mpr ⟨lw_p1, List.forall_mem_cons.mpr ⟨lw_p2, List.forall_mem_cons.mpr ⟨lw_p3, List.forall_mem_cons.mpr ⟨lw_p4, List.forall_mem_cons.mpr ⟨lw_p5, List.forall_mem_cons.mpr ⟨lw_p6, List.forall_mem_cons.mpr ⟨lw_p7, List.forall_mem_cons.mpr ⟨lw_p8, List.forall_mem_cons.mpr ⟨lw_p9, fun _ h => absurd h List.not_mem_nil⟩⟩⟩⟩⟩⟩⟩⟩⟩⟩
def lw_privs : List (MethodName × Nat) := lw_privs_1
def lw_tbl : List Cond := k2_sels lw_privs ++ tables_1
theorem lw_privs_ok : ∀ q ∈ lw_privs, lw_okq q := lw_r1
/-- the streams that the claim lets the run draw from -/
abbrev lw_cs : List Choice := [Jvm.Choice.named "NaN.bits"]
theorem lw_bits : nanBits ∈ lw_cs := by first | decide | exact List.mem_cons_self | simp [lw_cs, nanBits]
end
section
/-! ===== BEGIN words of one list among another's, by their places ===== -/
theorem goodIn_r {big : List Cond} (ws : List Cond) (ps : List Nat) (hp : ws = ps.filterMap (fun i => big[i]?)) (h : ws.all goodWord = true) : GoodIn big ws := by
  intro w hw
  have h1 := List.all_eq_true.mp h w hw
  rw [hp] at hw
  obtain ⟨i, -, hi⟩ := List.mem_filterMap.mp hw
  have hm : w ∈ big := by first | exact List.mem_of_getElem? hi | exact List.getElem?_mem hi
  exact ⟨hm, good_of_word h1⟩
theorem goodIn_app {big a b : List Cond} (ha : GoodIn big a) (hb : GoodIn big b) : GoodIn big (a ++ b) := fun w h => (List.mem_append.mp h).elim (ha w) (hb w)
theorem goodIn_ca {big a b : List Cond} {c : Cond} (ha : GoodIn big (c :: a)) (hb : GoodIn big b) : GoodIn big (c :: (a ++ b)) := fun w h => (List.mem_cons.mp h).elim (fun e => ha w (List.mem_cons.mpr (Or.inl e))) (fun h => (List.mem_append.mp h).elim (fun h => ha w (List.mem_cons.mpr (Or.inr h))) (hb w))
theorem goodIn_sub {big ws : List Cond} (hm : ∀ w ∈ ws, w ∈ big) (h : ws.all goodWord = true) : GoodIn big ws := fun w hw => ⟨hm w hw, good_of_word (List.all_eq_true.mp h w hw)⟩
/-! ===== END ===== -/


/-! ===== BEGIN exceptions that leave a method, and their catching by the caller (launches without stack traces) ===== -/
section VXA
/-! The laws vx_back, vx_callV, vx_callS, vx_callSW, vx_throw0, vx_throwS follow proofs of the library, with one case more: JvmDerived/Free/Laws.lean (Back.of_free), Shelf42/LK1.lean (callV, callS), Shelf/KitTraced.lean (throwNew0V, throwNewS). -/
/-- where a method has thrown q: the class by its name, the cell, what was written, the world -/
def vx_T (XC : String → State → State → Prop) (st : State) (q : Addr) (t : State) (mc ms : Nat) (free : Addr → Prop) : Prop :=
  ∃ (E : String) (ce : Cell) (L : List Loc), XC E st t ∧ t.heap[q]? = some ce ∧ ce.vm = .none ∧ st.vm.findClass E = some ce.cls ∧ st.WarmedH t.vm ∧ st.sameButNew ({ t with vm := st.vm } : State) L mc ms ∧ ∀ z ∈ L, free z.base
def vx_Q (Qc : Array Value → State → Outcome → State → Prop) (XC : String → State → State → Prop) (mc ms : Nat) (free : Addr → Prop) : Array Value → State → Outcome → State → Prop := fun a st o t =>
  (Qc a st o t ∧ ∃ L, FrameEnd st o t L mc ms ∧ ∀ q ∈ L, free q.base) ∨ ∃ q, o = .threw q ∧ vx_T XC st q t mc ms free
/-- a callee that returns or throws -/
def vx_Met (l : Launch) (y : MethodName) (ws : List Cond) (rm : Room) (Pc : Array Value → State → Prop) (Qc : Array Value → State → Outcome → State → Prop) (XC : String → State → State → Prop) (mc ms : Nat) (free : Addr → Prop) : Prop :=
  MetFree l y (headSpec ws rm) Pc (fun _ _ _ _ _ => True) (vx_Q Qc XC mc ms free)
def vx_Post (XC : String → State → State → Prop) (mc ms : Nat) (free : Addr → Prop) : Pt → Array Value → Addr → Pt → Prop := fun A a q B =>
  ∃ (g : JFrame) (mk : MethodId) (t : State) (L : List Loc) (E : String) (ce : Cell), B.U.heap = t.heap ∧ B.U.vm = t.vm ∧ XC E (A.U.calling g mk a) t ∧ t.heap[q]? = some ce ∧ ce.vm = .none ∧ A.U.vm.findClass E = some ce.cls ∧ B.locs = A.locs ++ L ∧ (∀ z ∈ L, free z.base) ∧ B.cells = A.cells + mc ∧ B.slots = A.slots + ms
def vx_Back (l : Launch) (R : Room) (p : Program) (e : Env) (below : List Frame) (s : State) (sargs : Array Value) (y : MethodName) (len W9 : Nat)
    (Pre : Pt → Array Value → Prop) (Post : Pt → Array Value → Option Value → Pt → Prop) (PostX : Pt → Array Value → Addr → Pt → Prop) : Prop :=
  ∀ (m : MethodId) (meth : Method) (c : Code) (A : Pt) (g : JFrame) (ig : Instr) (mk : MethodId) (a : Array Value),
    Stand p l e R s m sargs below meth c A.U A.locs A.cells A.slots → g.method = m → g.locals.size = c.maxLocals → decode c.code g.pc = .ok (ig, len) →
    2 * g.monitorRoom + (g.stack.map fun v => v.category).sum ≤ W9 → A.U.methodNamed? y = some mk → Pre A a →
    (∃ (v : Option Value) (B : Pt), Stand p l e R s m sargs below meth c B.U B.locs B.cells B.slots ∧ Post A a v B ∧
      Steps p.tables e below (doInvoke e (A.U.setTop g) [] mk a).1 (B.U.setTop { g with pc := g.pc + len, stack := v.toList ++ g.stack })) ∨
    (∃ (q : Addr) (B : Pt), Stand p l e R s m sargs below meth c B.U B.locs B.cells B.slots ∧ PostX A a q B ∧
      Steps p.tables e below (doInvoke e (A.U.setTop g) [] mk a).1 ((B.U.setTop g).pushFrame (.throwing q)))
section Payer
variable {l : Launch} {R : Room} {p : Program} {e : Env} {below : List Frame} {s : State} {sargs : Array Value} {y : MethodName} {len W9 : Nat}
theorem vx_back {ws : List Cond} {rm : Room} {Pc : Array Value → State → Prop} {Qc : Array Value → State → Outcome → State → Prop} {XC : String → State → State → Prop} {mc ms : Nat} {free : Addr → Prop} {bytes : ByteArray} {maxL : Nat} {ret : Option FieldType}
    (hM : vx_Met l y ws rm Pc Qc XC mc ms free) (hblind : FrameBlind Pc) (hrc : rm.cells = mc) (hrs : rm.slots = ms)
    (hframes : rm.frames + 1 ≤ R.frames) (hlocals : W9 + (maxL + 11) + rm.locals ≤ R.locals)
    (hws : ∀ w ∈ ws, ∀ a' U, s.WarmedH U.vm → w.before a' U = true) (hcode : Cond.code y bytes maxL ret ∈ ws) (hinit : ∀ a' U, s.WarmedH U.vm → (Cond.initialized y.cls).before a' U = true) :
    vx_Back l R p e below s sargs y len W9 (PreOf R mc ms Pc) (PostOf Qc mc ms free) (vx_Post XC mc ms free) := by
  intro m meth c A g ig mk a X hg hsize hdg hW hn hp
  have h1 : (headSpec ws rm).pre.before a A.U = true := atoms_intro fun w hw => hws w hw _ _ X.warmed
  have h2 : (Cond.code y bytes maxL ret).before a A.U = true := hws _ hcode _ _ X.warmed
  have h3 : (Cond.initialized y.cls).before a A.U = true := hinit _ _ X.warmed
  have h4 : A.cells + (headSpec ws rm).room.cells ≤ R.cells := by rw [show (headSpec ws rm).room.cells = mc from hrc]; exact hp.1
  have h5 : A.slots + (headSpec ws rm).room.slots ≤ R.slots := by rw [show (headSpec ws rm).room.slots = ms from hrs]; exact hp.2.1
  have hPc : Pc a (A.U.calling g mk a) := hblind _ _ _ _ hp.2.2
  obtain ⟨U, Ls, c0, s0⟩ := A
  dsimp only [Pt.U, Pt.locs, Pt.cells, Pt.slots] at h1 h2 h3 h4 h5 X hn hPc ⊢
  obtain ⟨methY, cY, hmY, hcY, -, hlY, -, -, -, -⟩ := Cond.code_spec hn h2
  obtain ⟨kY, hkY, -⟩ := className_of_methodNamed hn
  have hinitY : kY.init = .initialized := Cond.initialized_spec (findClass_of_methodNamed hn) hkY h3
  have h : At U g.method c below := by rw [hg]; exact X.here
  have hlocals9 : W9 + (maxL + 11) + (headSpec ws rm).room.locals ≤ R.locals := hlocals
  have happ : (headSpec ws rm).appliesLoose y e.platform (U.calling g mk a) = true :=
    Spec.appliesLoose_calling (g := g) h hdg hn hkY hinitY
      (X.room_calling (g := g) (R' := (headSpec ws rm).room) hsize hmY hcY hframes (by rw [hlY]; omega) h4 h5) h1
  obtain ⟨mid, hmid⟩ := h.above
  have hfr : (U.setTop g).frames = (.java g :: mid) ++ below := by rw [State.frames_setTop' g h.top, hmid]; rfl
  obtain ⟨o, s₂, hsteps, -, hend, hq⟩ := Steps.callFree hM p X.admits X.cas X.clock (acts := []) hfr happ hPc trivial
  have hq' : vx_Q Qc XC mc ms free a (U.calling g mk a) o s₂ := hq
  rw [State.frames_setTop' g h.top] at hend
  obtain ⟨g₀, hg0⟩ := Option.isSome_iff_exists.mp h.top
  obtain ⟨r, hr⟩ := State.topJava?_eq_some.mp hg0
  have hr' : (({ U with heap := s₂.heap, slotsUsed := s₂.slotsUsed } : State).setVm s₂.vm).frames = .java g₀ :: r := hr
  rcases hq' with ⟨hqc, L, hfe, hL⟩ | ⟨q, rfl, E, ce, L, hx, hce, hcv, hcl, hW₂, hsm, hL⟩
  · obtain ⟨⟨v, rfl⟩, hW₂, e2, q2, q3, q4, q5, q6⟩ := id hfe
    have e3 : s₂ = ({ (U.calling g mk a).setFrames s₂.frames with heap := s₂.heap, slotsUsed := s₂.slotsUsed } : State).setVm s₂.vm := by
      have : s₂ = ({ s₂ with vm := (U.calling g mk a).vm } : State).setVm s₂.vm := rfl
      rw [e2] at this
      exact this
    obtain ⟨c₂, i₂, len₂, hc₂, hd₂, hf₂⟩ := hend
    have hW' : U.WarmedH s₂.vm := hW₂
    have hcc : c₂ = c := by
      have h1 : s₂.code? g.method = U.code? g.method := by
        rw [State.code?_eq, State.code?_eq, hW'.alike.method?]
      exact Option.some.inj (hc₂.symm.trans (h1.trans h.code))
    subst hcc
    have hlen : len₂ = len := by rw [hdg] at hd₂; cases hd₂; rfl
    subst hlen
    have hs₂ : s₂ = (({ U with heap := s₂.heap, slotsUsed := s₂.slotsUsed } : State).setVm s₂.vm).setTop { g with pc := g.pc + len₂, stack := v.toList ++ g.stack } := by
      refine e3.trans ?_
      rw [hf₂, State.calling_eq h.top, State.setFrames_setFrames, State.setTop_of_frames _ hr', hr]
      rfl
    have hsame : U.sameButNew ({ U with heap := s₂.heap, slotsUsed := s₂.slotsUsed } : State) L mc ms := by
      refine ⟨?_, q2, q3, q4, q5, q6⟩
      obtain ⟨t, ht, -⟩ := State.frames_cons hr
      show ({ U with heap := s₂.heap, slotsUsed := s₂.slotsUsed } : State) = { U.setFrames U.frames with heap := s₂.heap, slotsUsed := s₂.slotsUsed }
      rw [State.setFrames_self ht]
    subst hg
    refine Or.inl ⟨v, ⟨(({ U with heap := s₂.heap, slotsUsed := s₂.slotsUsed } : State).setVm s₂.vm), Ls ++ L, c0 + mc, s0 + ms⟩,
      ⟨X.admits, X.cas, X.clock, X.frames, X.room, X.hears, X.method, X.code, (X.here.setHeapUsed s₂.heap s₂.slotsUsed).setVm hW'.alike, X.tail, State.WarmedH.trans X.warmed hW', X.limits, X.bytes, X.same.trans (hsame.setVm s.vm)⟩,
      ⟨g, mk, s₂, L, rfl, rfl, hqc, rfl, hL, rfl, rfl⟩, ?_⟩
    show Steps p.tables e below _ ((({ U with heap := s₂.heap, slotsUsed := s₂.slotsUsed } : State).setVm s₂.vm).setTop { g with pc := g.pc + len₂, stack := v.toList ++ g.stack })
    rw [← hs₂]
    exact hsteps
  · obtain ⟨e2, q2, q3, q4, q5, q6⟩ := id hsm
    have e3 : s₂ = ({ (U.calling g mk a).setFrames s₂.frames with heap := s₂.heap, slotsUsed := s₂.slotsUsed } : State).setVm s₂.vm := by
      have : s₂ = ({ s₂ with vm := (U.calling g mk a).vm } : State).setVm s₂.vm := rfl
      rw [e2] at this
      exact this
    have hf₂ : s₂.frames = .throwing q :: .java g :: U.frames.tail := hend
    have hW' : U.WarmedH s₂.vm := hW₂
    have hs₂ : s₂ = ((({ U with heap := s₂.heap, slotsUsed := s₂.slotsUsed } : State).setVm s₂.vm).setTop g).pushFrame (.throwing q) := by
      refine e3.trans ?_
      rw [hf₂, State.calling_eq h.top, State.setFrames_setFrames, State.pushFrame, State.frames_setTop _ hr', State.setTop_of_frames _ hr', State.setFrames_setFrames, hr]
      rfl
    have hsame : U.sameButNew ({ U with heap := s₂.heap, slotsUsed := s₂.slotsUsed } : State) L mc ms := by
      refine ⟨?_, q2, q3, q4, q5, q6⟩
      obtain ⟨t, ht, -⟩ := State.frames_cons hr
      show ({ U with heap := s₂.heap, slotsUsed := s₂.slotsUsed } : State) = { U.setFrames U.frames with heap := s₂.heap, slotsUsed := s₂.slotsUsed }
      rw [State.setFrames_self ht]
    subst hg
    refine Or.inr ⟨q, ⟨(({ U with heap := s₂.heap, slotsUsed := s₂.slotsUsed } : State).setVm s₂.vm), Ls ++ L, c0 + mc, s0 + ms⟩,
      ⟨X.admits, X.cas, X.clock, X.frames, X.room, X.hears, X.method, X.code, (X.here.setHeapUsed s₂.heap s₂.slotsUsed).setVm hW'.alike, X.tail, State.WarmedH.trans X.warmed hW', X.limits, X.bytes, X.same.trans (hsame.setVm s.vm)⟩,
      ⟨g, mk, s₂, L, E, ce, rfl, rfl, hx, hce, hcv, hcl, rfl, hL, rfl, rfl⟩, ?_⟩
    show Steps p.tables e below _ (((({ U with heap := s₂.heap, slotsUsed := s₂.slotsUsed } : State).setVm s₂.vm).setTop g).pushFrame (.throwing q))
    rw [← hs₂]
    exact hsteps
end Payer
section Calls
variable {p : Program} {l : Launch} {e : Env} {R : Room} {s : State} {m : MethodId} {args : Array Value} {below : List Frame} {meth : Method} {c : Code} {T : State} {locs : List Loc} {cells slots : Nat}
theorem vx_callV (X : Stand p l e R s m args below meth c T locs cells slots) (hexec : p.tables.exec = Jvm.exec) {own C : String} {index : Nat} {y : MethodName} {bytes : ByteArray} {maxL : Nat} {ret : Option FieldType}
    (hown : s.vm.findClass own = some m.cls) (hlink : (Cond.methodLink own index y).before args s = true) (hinst : (Cond.instanceMethod y).before args s = true) (hsel : (Cond.selects C y y).before args s = true)
    (hcode : (Cond.code y bytes maxL ret).before args s = true) (hy : y.cls ≠ "java/lang/invoke/MethodHandle" ∧ y.cls ≠ "java/lang/invoke/VarHandle")
    {W9 : Nat} {Pre : Pt → Array Value → Prop} {Post : Pt → Array Value → Option Value → Pt → Prop} {PostX : Pt → Array Value → Addr → Pt → Prop} (hK : vx_Back l R p e below s args y 3 W9 Pre Post PostX)
    {b : Addr} {cellB : Cell} (hcell : T.heap[b]? = some cellB) (hobj : cellB.vm.isStatics = false) (hcls : s.vm.findClass C = some cellB.cls)
    {g : JFrame} (hg : g.method = m) (hsize : g.locals.size = c.maxLocals) {argsL rest : List Value} (hlen : ∀ sig, parseMethodDescriptor y.desc = some sig → argsL.length = sig.parameters.length)
    (hstack : g.stack = argsL.reverse ++ .ref b :: rest) (hW : 2 * g.monitorRoom + (rest.map fun v => v.category).sum ≤ W9) (hdg : decode c.code g.pc = .ok (.invokevirtual index, 3))
    (hpre : ∀ vm₁, s.WarmedH vm₁ → Pre ⟨T.setVm vm₁, locs, cells, slots⟩ (Value.ref b :: argsL).toArray) :
    (∃ (v : Option Value) (vm₁ : Vm) (B : Pt), s.WarmedH vm₁ ∧ Stand p l e R s m args below meth c B.U B.locs B.cells B.slots ∧ Post ⟨T.setVm vm₁, locs, cells, slots⟩ (Value.ref b :: argsL).toArray v B ∧
      ∀ target, Steps p.tables e below (B.U.setTop { g with pc := g.pc + 3, stack := v.toList ++ rest }) target → Steps p.tables e below (T.setTop g) target) ∨
    (∃ (q : Addr) (vm₁ : Vm) (B : Pt), s.WarmedH vm₁ ∧ Stand p l e R s m args below meth c B.U B.locs B.cells B.slots ∧ PostX ⟨T.setVm vm₁, locs, cells, slots⟩ (Value.ref b :: argsL).toArray q B ∧
      Steps p.tables e below (T.setTop g) ((B.U.setTop { g with stack := rest }).pushFrame (.throwing q))) := by
  obtain ⟨mk, methM, hnamed, hmethM, hstM, habM⟩ := Cond.instanceMethod_spec hinst
  obtain ⟨methM', cM, hmethM', -, -, -, -, -, -, hsigM⟩ := Cond.code_spec hnamed hcode
  cases hmethM.symm.trans hmethM'
  obtain ⟨c2, r2, m2, q1, q2, q3, q4, kP, hkP, hkPi⟩ := Cond.selects_spec hsel
  cases hcls.symm.trans q1
  cases (State.methodFound?_of_named hnamed hy).symm.trans q2
  cases hnamed.symm.trans q3
  have hselP : selectMethod e.platform s.vm cellB.cls mk = .method mk := by rw [Launch.admits_selectMethod X.admits]; exact q4
  obtain ⟨vm₁, X₁, hstep₁⟩ := X.invokevirtual hexec hown hlink hnamed hmethM hstM hkP hkPi hy (a := b) (cell := cellB) hcell
    (fun z h => by rw [h] at hobj; cases hobj) hselP hmethM habM hkP hkPi (g := g) hg (argsL := argsL) (rest := rest) (hlen _ hsigM) hstack hdg
  rcases hK m meth c ⟨T.setVm vm₁, locs, cells, slots⟩ { g with stack := rest } (.invokevirtual index) mk (Value.ref b :: argsL).toArray X₁ hg hsize hdg hW (X₁.named hnamed) (hpre vm₁ X₁.warmed) with ⟨v, B, X', hpost, hsteps⟩ | ⟨q, B, X', hpost, hsteps⟩
  · exact Or.inl ⟨v, vm₁, B, X₁.warmed, X', hpost, fun target h => hstep₁ _ fun acts => by rw [doInvoke_state]; exact hsteps.trans h⟩
  · exact Or.inr ⟨q, vm₁, B, X₁.warmed, X', hpost, hstep₁ _ fun acts => by rw [doInvoke_state]; exact hsteps⟩
theorem vx_callS (X : Stand p l e R s m args below meth c T locs cells slots) (hexec : p.tables.exec = Jvm.exec) {own : String} {index : Nat} {y : MethodName} {bytes : ByteArray} {maxL : Nat} {ret : Option FieldType}
    (hown : s.vm.findClass own = some m.cls) (hlink : (Cond.methodLink own index y).before args s = true) (hstat : (Cond.static y).before args s = true) (hinit : (Cond.initialized y.cls).before args s = true)
    (hcode : (Cond.code y bytes maxL ret).before args s = true) (hy : y.cls ≠ "java/lang/invoke/MethodHandle" ∧ y.cls ≠ "java/lang/invoke/VarHandle")
    {W9 : Nat} {Pre : Pt → Array Value → Prop} {Post : Pt → Array Value → Option Value → Pt → Prop} {PostX : Pt → Array Value → Addr → Pt → Prop} (hK : vx_Back l R p e below s args y 3 W9 Pre Post PostX)
    {g : JFrame} (hg : g.method = m) (hsize : g.locals.size = c.maxLocals) {argsL rest : List Value} (hlen : ∀ sig, parseMethodDescriptor y.desc = some sig → argsL.length = sig.parameters.length)
    (hstack : g.stack = argsL.reverse ++ rest) (hW : 2 * g.monitorRoom + (rest.map fun v => v.category).sum ≤ W9) (hdg : decode c.code g.pc = .ok (.invokestatic index, 3))
    (hpre : ∀ vm₁, s.WarmedH vm₁ → Pre ⟨T.setVm vm₁, locs, cells, slots⟩ argsL.toArray) :
    (∃ (v : Option Value) (vm₁ : Vm) (B : Pt), s.WarmedH vm₁ ∧ Stand p l e R s m args below meth c B.U B.locs B.cells B.slots ∧ Post ⟨T.setVm vm₁, locs, cells, slots⟩ argsL.toArray v B ∧
      ∀ target, Steps p.tables e below (B.U.setTop { g with pc := g.pc + 3, stack := v.toList ++ rest }) target → Steps p.tables e below (T.setTop g) target) ∨
    (∃ (q : Addr) (vm₁ : Vm) (B : Pt), s.WarmedH vm₁ ∧ Stand p l e R s m args below meth c B.U B.locs B.cells B.slots ∧ PostX ⟨T.setVm vm₁, locs, cells, slots⟩ argsL.toArray q B ∧
      Steps p.tables e below (T.setTop g) ((B.U.setTop { g with stack := rest }).pushFrame (.throwing q))) := by
  obtain ⟨mk, hnamed⟩ := Cond.code_named hcode
  obtain ⟨methM, cM, hmethM, -, -, -, -, -, -, hsigM⟩ := Cond.code_spec hnamed hcode
  have hstatic : methM.isStatic = true := Cond.static_spec hnamed hmethM hstat
  obtain ⟨kP, hkP, -⟩ := className_of_methodNamed hnamed
  have hinitP : kP.init = .initialized := Cond.initialized_spec (findClass_of_methodNamed hnamed) hkP hinit
  obtain ⟨vm₁, X₁, hstep₁⟩ := X.invokestatic hexec hown hlink hnamed hmethM hstatic hkP hinitP hy (g := g) hg (argsL := argsL) (rest := rest) (hlen _ hsigM) hstack hdg
  rcases hK m meth c ⟨T.setVm vm₁, locs, cells, slots⟩ { g with stack := rest } (.invokestatic index) mk argsL.toArray X₁ hg hsize hdg hW (X₁.named hnamed) (hpre vm₁ X₁.warmed) with ⟨v, B, X', hpost, hsteps⟩ | ⟨q, B, X', hpost, hsteps⟩
  · exact Or.inl ⟨v, vm₁, B, X₁.warmed, X', hpost, fun target h => hstep₁ _ fun acts => by rw [doInvoke_state]; exact hsteps.trans h⟩
  · exact Or.inr ⟨q, vm₁, B, X₁.warmed, X', hpost, hstep₁ _ fun acts => by rw [doInvoke_state]; exact hsteps⟩
end Calls
theorem vx_cls {s : State} {T : State} {vm₁ : Vm} {E : String} {k : ClassId} (hW : s.WarmedH vm₁) (h : (T.setVm vm₁).vm.findClass E = some k) : s.vm.findClass E = some k := by
  have h1 : vm₁.findClass E = some k := h
  rw [hW.alike.findClass] at h1
  exact h1
/-- the method's frame g, with q thrown over it -/
def vx_W (p : Program) (l : Launch) (e : Env) (R : Room) (s : State) (m : MethodId) (args : Array Value) (below : List Frame) (meth : Method) (c : Code) (H : Heap) (locs : List Loc) (cells slots : Nat) (Q : State → Prop) (g : JFrame) (q : Addr) : Prop :=
  ∀ T : State, T.heap = H → Stand p l e R s m args below meth c T locs cells slots → ∃ t, Steps p.tables e below ((T.setTop g).pushFrame (.throwing q)) t ∧ Q t
def vx_Run (p : Program) (l : Launch) (e : Env) (R : Room) (s : State) (m : MethodId) (args : Array Value) (below : List Frame) (meth : Method) (c : Code) (H : Heap) (locs : List Loc) (cells slots mc ms : Nat) (g : JFrame) (rest : List Value) (Qa : State → Outcome → State → Prop) (XC : String → State → State → Prop) (free : Addr → Prop) : Prop :=
  ∀ T : State, T.heap = H → Stand p l e R s m args below meth c T locs cells slots →
    (∃ (v : Option Value) (st₀ t T' : State) (L : List Loc), st₀.heap = H ∧ Stand p l e R s m args below meth c T' (locs ++ L) (cells + mc) (slots + ms) ∧ (∀ q ∈ L, free q.base) ∧ T'.heap = t.heap ∧ T'.vm = t.vm ∧ Qa st₀ (.returned v) t ∧
      Goes p e below T g T' { g with pc := g.pc + 3, stack := v.toList ++ rest }) ∨
    (∃ (q : Addr) (st₀ t T' : State) (L : List Loc) (E : String) (ce : Cell), st₀.heap = H ∧ Stand p l e R s m args below meth c T' (locs ++ L) (cells + mc) (slots + ms) ∧ (∀ z ∈ L, free z.base) ∧ T'.heap = t.heap ∧ T'.vm = t.vm ∧ XC E st₀ t ∧ t.heap[q]? = some ce ∧ ce.vm = .none ∧ s.vm.findClass E = some ce.cls ∧
      Steps p.tables e below (T.setTop g) ((T'.setTop { g with stack := rest }).pushFrame (.throwing q)))
def vx_X {S : Type} (px : S → Prop) (B : String → S → State → Prop) (A : Nat → Prop) : String → State → State → Prop := fun E st t => ∃ u : S, px u ∧ B E u t ∧ va_F A st t
section Runs
variable {p : Program} {l : Launch} {e : Env} {R : Room} {s : State} {m : MethodId} {args : Array Value} {below : List Frame} {meth : Method} {c : Code} {H : Heap} {locs : List Loc} {cells slots : Nat}
variable {y : MethodName} {bytes cc : ByteArray} {maxL nL mc ms n index : Nat} {ret : Option FieldType} {ws : List Cond} {rm : Room} {Pc : Array Value → State → Prop} {Qc : Array Value → State → Outcome → State → Prop} {XC : String → State → State → Prop} {free : Addr → Prop} {Ts : List Cond} {own C : String} {b : Addr} {As rest : List Value} {g : JFrame}
theorem vx_callBack (cb : CallB R s args own index y bytes maxL ret ws rm mc ms n) (hM : vx_Met l y ws rm Pc Qc XC mc ms free) (hbl : FrameBlind Pc) : vx_Back l R p e below s args y 3 8 (PreOf R mc ms Pc) (PostOf Qc mc ms free) (vx_Post XC mc ms free) := by
  obtain ⟨hrc, hrs, hfr, hlo, hws, hcw, -, hini, -⟩ := cb
  exact vx_back (bytes := bytes) (maxL := maxL) (ret := ret) hM hbl hrc hrs hfr hlo hws hcw (fun a' U hW => word_at hW (Or.inl (by first | rfl | simp [Cond.onTables, Cond.keeps, Cond.steady])) hini)
theorem vx_runV (S : CallFix p m c cc nL s args Ts own) (hM : vx_Met l y ws rm Pc Qc XC mc ms free) (cw : CallW R s args own C index y bytes maxL ret ws rm mc ms n) (hp : PreV s H C b Pc As)
    (hg : g.method = m) (hn : As.length = n) (hsize : g.locals.size = nL) (hstack : g.stack = As.reverse ++ .ref b :: rest) (hW : 2 * g.monitorRoom + (rest.map fun v => v.category).sum ≤ 8) (hdg : decode cc g.pc = .ok (.invokevirtual index, 3)) (hf : cells + mc ≤ R.cells ∧ slots + ms ≤ R.slots) :
    vx_Run p l e R s m args below meth c H locs cells slots mc ms g rest (Qc (Value.ref b :: As).toArray) XC free := by
  have hK : vx_Back l R p e below s args y 3 8 (PreOf R mc ms Pc) (PostOf Qc mc ms free) (vx_Post XC mc ms free) := vx_callBack cw.1 hM hp.1
  obtain ⟨⟨-, -, -, -, -, -, hcode, -, hy, hlen, hl⟩, hin, hse⟩ := cw
  obtain ⟨hx, hb, hml, ho, -⟩ := S
  obtain ⟨-, ⟨cellB, hcB, hoB, hclB⟩, hPc⟩ := hp
  intro T hT X
  rcases vx_callV X hx (C := C) (bytes := bytes) (maxL := maxL) (ret := ret) ho hl hin hse hcode hy hK (by rw [hT]; exact hcB) hoB hclB hg (hsize.trans hml.symm) (argsL := As) (rest := rest) (fun sig h => hn.trans (hlen sig h)) hstack hW (by rw [hb]; exact hdg)
    (fun vm₁ hW₁ => ⟨hf.1, hf.2, hPc (T.setVm vm₁) hT hW₁⟩) with ⟨v, vm₁, ⟨U', l2, c2, s2⟩, hW₁, X', ⟨g', mk, t, L, e1, e2, hq, h1, hL, h2, h3⟩, st⟩ | ⟨q, vm₁, ⟨U', l2, c2, s2⟩, hW₁, X', ⟨g', mk, t, L, E, ce, e1, e2, hq, hce, hcv, hcl, h1, hL, h2, h3⟩, st⟩
  · dsimp only [Pt.U, Pt.locs, Pt.cells, Pt.slots] at X' e1 e2 h1 h2 h3 st
    subst h1; subst h2; subst h3
    exact Or.inl ⟨v, (T.setVm vm₁).calling g' mk (Value.ref b :: As).toArray, t, U', L, hT, X', hL, e1, e2, hq, st⟩
  · dsimp only [Pt.U, Pt.locs, Pt.cells, Pt.slots] at X' e1 e2 h1 h2 h3 st hcl
    subst h1; subst h2; subst h3
    exact Or.inr ⟨q, (T.setVm vm₁).calling g' mk (Value.ref b :: As).toArray, t, U', L, E, ce, hT, X', hL, e1, e2, hq, hce, hcv, vx_cls hW₁ hcl, st⟩
theorem vx_runS (S : CallFix p m c cc nL s args Ts own) (hM : vx_Met l y ws rm Pc Qc XC mc ms free) (cw : CallB R s args own index y bytes maxL ret ws rm mc ms n ∧ (Cond.static y).before args s = true) (hp : PreS s H Pc As)
    (hg : g.method = m) (hn : As.length = n) (hsize : g.locals.size = nL) (hstack : g.stack = As.reverse ++ rest) (hW : 2 * g.monitorRoom + (rest.map fun v => v.category).sum ≤ 8) (hdg : decode cc g.pc = .ok (.invokestatic index, 3)) (hf : cells + mc ≤ R.cells ∧ slots + ms ≤ R.slots) :
    vx_Run p l e R s m args below meth c H locs cells slots mc ms g rest (Qc As.toArray) XC free := by
  have hK : vx_Back l R p e below s args y 3 8 (PreOf R mc ms Pc) (PostOf Qc mc ms free) (vx_Post XC mc ms free) := vx_callBack cw.1 hM hp.1
  obtain ⟨⟨-, -, -, -, -, -, hcode, hini, hy, hlen, hl⟩, hstt⟩ := cw
  obtain ⟨hx, hb, hml, ho, -⟩ := S
  intro T hT X
  rcases vx_callS X hx (bytes := bytes) (maxL := maxL) (ret := ret) ho hl hstt hini hcode hy hK hg (hsize.trans hml.symm) (argsL := As) (rest := rest) (fun sig h => hn.trans (hlen sig h)) hstack hW (by rw [hb]; exact hdg)
    (fun vm₁ hW₁ => ⟨hf.1, hf.2, hp.2 (T.setVm vm₁) hT hW₁⟩) with ⟨v, vm₁, ⟨U', l2, c2, s2⟩, hW₁, X', ⟨g', mk, t, L, e1, e2, hq, h1, hL, h2, h3⟩, st⟩ | ⟨q, vm₁, ⟨U', l2, c2, s2⟩, hW₁, X', ⟨g', mk, t, L, E, ce, e1, e2, hq, hce, hcv, hcl, h1, hL, h2, h3⟩, st⟩
  · dsimp only [Pt.U, Pt.locs, Pt.cells, Pt.slots] at X' e1 e2 h1 h2 h3 st
    subst h1; subst h2; subst h3
    exact Or.inl ⟨v, (T.setVm vm₁).calling g' mk As.toArray, t, U', L, hT, X', hL, e1, e2, hq, st⟩
  · dsimp only [Pt.U, Pt.locs, Pt.cells, Pt.slots] at X' e1 e2 h1 h2 h3 st hcl
    subst h1; subst h2; subst h3
    exact Or.inr ⟨q, (T.setVm vm₁).calling g' mk As.toArray, t, U', L, E, ce, hT, X', hL, e1, e2, hq, hce, hcv, vx_cls hW₁ hcl, st⟩
end Runs
section Rows
variable {p : Program} {l : Launch} {e : Env} {R : Room} {s : State} {m : MethodId} {args : Array Value} {below : List Frame} {meth : Method} {c : Code} {H : Heap} {locs : List Loc} {cells slots : Nat} {Q : State → Prop}
variable {mc ms : Nat} {free : Addr → Prop} {A0 A1 : Nat → Prop} {H0 : Heap} {a : Array Value} {pc : Nat} {ls : Array Slot} {st0 rest : List Value}
theorem vx_keep {st₀ t T' : State} {L : List Loc} (h0 : st₀.heap = H) (e1 : T'.heap = t.heap) (hS : va_S A0 H0 H locs) (hA : ∀ q, q < H.size → A1 q → A0 q) (hf : ∀ q, free q → A0 q) (hL : ∀ q ∈ L, free q.base) (hF : va_F A1 st₀ t) :
    H.size ≤ T'.heap.size ∧ (∀ q : Nat, q < H.size → ¬ A1 q → T'.heap[q]? = H[q]?) ∧ va_S A0 H0 T'.heap (locs ++ L) := by
  obtain ⟨hz, hk⟩ := hF
  rw [h0] at hz hk
  exact ⟨by rw [e1]; exact hz, fun q h1 h2 => by rw [e1]; exact hk q h1 h2,
    ⟨Nat.le_trans hS.1 (by rw [e1]; exact hz), fun q h1 h2 => by rw [e1, hk q (Nat.lt_of_lt_of_le h1 hS.1) (fun z => h2 (hA q (Nat.lt_of_lt_of_le h1 hS.1) z))]; exact hS.2.1 q h1 h2, fun q hq => by
      rcases List.mem_append.mp hq with h | h
      · exact hS.2.2 q h
      · exact hf _ (hL q h)⟩⟩
theorem vx_calli {S SX : Type} {post : Int32 → S → Prop} {px : SX → Prop} {B : S → State → Prop} {BX : String → SX → State → Prop} {AX : Nat → Prop} (hr : vx_Run p l e R s m args below meth c H locs cells slots mc ms (F0 m pc ls st0) rest (va_Qi post B A1 a) (vx_X px BX AX) free) (hS : va_S A0 H0 H locs) (hA : ∀ q, q < H.size → A1 q → A0 q) (hf : ∀ q, free q → A0 q) (hAX : ∀ q, q < H.size → AX q → A0 q)
    (kx : ∀ (E : String) (ce : Cell) (q9 : Addr) (u : SX) (t : State) (H1 : Heap) (locs1 : List Loc), t.heap = H1 → s.vm.Alike t.vm → px u → BX E u t → H.size ≤ H1.size → (∀ q : Nat, q < H.size → ¬ AX q → H1[q]? = H[q]?) → va_S A0 H0 H1 locs1 → H1[q9]? = some ce → ce.vm = .none → s.vm.findClass E = some ce.cls → vx_W p l e R s m args below meth c H1 locs1 (cells + mc) (slots + ms) Q (F0 m pc ls rest) q9)
    (kk : ∀ (r : Int32) (u : S) (t : State) (H1 : Heap) (locs1 : List Loc), t.heap = H1 → s.vm.Alike t.vm → post r u → B u t → H.size ≤ H1.size → (∀ q : Nat, q < H.size → ¬ A1 q → H1[q]? = H[q]?) → va_S A0 H0 H1 locs1 → W p l e R s m args below meth c H1 locs1 (cells + mc) (slots + ms) Q (F0 m (pc + 3) ls (.int r :: rest))) : W p l e R s m args below meth c H locs cells slots Q (F0 m pc ls st0) := by
  intro T hT X
  rcases hr T hT X with ⟨v, st₀, t, T', L, h0, X', hL, e1, e2, ⟨⟨r, u, hv, hp, hb⟩, hF⟩, st⟩ | ⟨q, st₀, t, T', L, E, ce, h0, X', hL, e1, e2, ⟨u, hp, hb, hF⟩, hce, hcv, hcl, st⟩
  · cases hv
    obtain ⟨k1, k2, k3⟩ := vx_keep h0 e1 hS hA hf hL hF
    obtain ⟨t2, a1, b1⟩ := kk r u t T'.heap (locs ++ L) e1.symm (by rw [← e2]; exact X'.warmed.alike) hp hb k1 k2 k3 T' rfl X'
    exact ⟨t2, st t2 a1, b1⟩
  · obtain ⟨k1, k2, k3⟩ := vx_keep h0 e1 hS hAX hf hL hF
    obtain ⟨t2, a1, b1⟩ := kx E ce q u t T'.heap (locs ++ L) e1.symm (by rw [← e2]; exact X'.warmed.alike) hp hb k1 k2 k3 (by rw [e1]; exact hce) hcv hcl T' rfl X'
    exact ⟨t2, st.trans a1, b1⟩
theorem vx_calll {S SX : Type} {post : Int64 → S → Prop} {px : SX → Prop} {B : S → State → Prop} {BX : String → SX → State → Prop} {AX : Nat → Prop} (hr : vx_Run p l e R s m args below meth c H locs cells slots mc ms (F0 m pc ls st0) rest (va_Ql post B A1 a) (vx_X px BX AX) free) (hS : va_S A0 H0 H locs) (hA : ∀ q, q < H.size → A1 q → A0 q) (hf : ∀ q, free q → A0 q) (hAX : ∀ q, q < H.size → AX q → A0 q)
    (kx : ∀ (E : String) (ce : Cell) (q9 : Addr) (u : SX) (t : State) (H1 : Heap) (locs1 : List Loc), t.heap = H1 → s.vm.Alike t.vm → px u → BX E u t → H.size ≤ H1.size → (∀ q : Nat, q < H.size → ¬ AX q → H1[q]? = H[q]?) → va_S A0 H0 H1 locs1 → H1[q9]? = some ce → ce.vm = .none → s.vm.findClass E = some ce.cls → vx_W p l e R s m args below meth c H1 locs1 (cells + mc) (slots + ms) Q (F0 m pc ls rest) q9)
    (kk : ∀ (r : Int64) (u : S) (t : State) (H1 : Heap) (locs1 : List Loc), t.heap = H1 → s.vm.Alike t.vm → post r u → B u t → H.size ≤ H1.size → (∀ q : Nat, q < H.size → ¬ A1 q → H1[q]? = H[q]?) → va_S A0 H0 H1 locs1 → W p l e R s m args below meth c H1 locs1 (cells + mc) (slots + ms) Q (F0 m (pc + 3) ls (.long r :: rest))) : W p l e R s m args below meth c H locs cells slots Q (F0 m pc ls st0) := by
  intro T hT X
  rcases hr T hT X with ⟨v, st₀, t, T', L, h0, X', hL, e1, e2, ⟨⟨r, u, hv, hp, hb⟩, hF⟩, st⟩ | ⟨q, st₀, t, T', L, E, ce, h0, X', hL, e1, e2, ⟨u, hp, hb, hF⟩, hce, hcv, hcl, st⟩
  · cases hv
    obtain ⟨k1, k2, k3⟩ := vx_keep h0 e1 hS hA hf hL hF
    obtain ⟨t2, a1, b1⟩ := kk r u t T'.heap (locs ++ L) e1.symm (by rw [← e2]; exact X'.warmed.alike) hp hb k1 k2 k3 T' rfl X'
    exact ⟨t2, st t2 a1, b1⟩
  · obtain ⟨k1, k2, k3⟩ := vx_keep h0 e1 hS hAX hf hL hF
    obtain ⟨t2, a1, b1⟩ := kx E ce q u t T'.heap (locs ++ L) e1.symm (by rw [← e2]; exact X'.warmed.alike) hp hb k1 k2 k3 (by rw [e1]; exact hce) hcv hcl T' rfl X'
    exact ⟨t2, st.trans a1, b1⟩
theorem vx_callf {S SX : Type} {post : UInt32 → S → Prop} {px : SX → Prop} {B : S → State → Prop} {BX : String → SX → State → Prop} {AX : Nat → Prop} (hr : vx_Run p l e R s m args below meth c H locs cells slots mc ms (F0 m pc ls st0) rest (va_Qf post B A1 a) (vx_X px BX AX) free) (hS : va_S A0 H0 H locs) (hA : ∀ q, q < H.size → A1 q → A0 q) (hf : ∀ q, free q → A0 q) (hAX : ∀ q, q < H.size → AX q → A0 q)
    (kx : ∀ (E : String) (ce : Cell) (q9 : Addr) (u : SX) (t : State) (H1 : Heap) (locs1 : List Loc), t.heap = H1 → s.vm.Alike t.vm → px u → BX E u t → H.size ≤ H1.size → (∀ q : Nat, q < H.size → ¬ AX q → H1[q]? = H[q]?) → va_S A0 H0 H1 locs1 → H1[q9]? = some ce → ce.vm = .none → s.vm.findClass E = some ce.cls → vx_W p l e R s m args below meth c H1 locs1 (cells + mc) (slots + ms) Q (F0 m pc ls rest) q9)
    (kk : ∀ (r : UInt32) (u : S) (t : State) (H1 : Heap) (locs1 : List Loc), t.heap = H1 → s.vm.Alike t.vm → post r u → B u t → H.size ≤ H1.size → (∀ q : Nat, q < H.size → ¬ A1 q → H1[q]? = H[q]?) → va_S A0 H0 H1 locs1 → W p l e R s m args below meth c H1 locs1 (cells + mc) (slots + ms) Q (F0 m (pc + 3) ls (.float r :: rest))) : W p l e R s m args below meth c H locs cells slots Q (F0 m pc ls st0) := by
  intro T hT X
  rcases hr T hT X with ⟨v, st₀, t, T', L, h0, X', hL, e1, e2, ⟨⟨r, u, hv, hp, hb⟩, hF⟩, st⟩ | ⟨q, st₀, t, T', L, E, ce, h0, X', hL, e1, e2, ⟨u, hp, hb, hF⟩, hce, hcv, hcl, st⟩
  · cases hv
    obtain ⟨k1, k2, k3⟩ := vx_keep h0 e1 hS hA hf hL hF
    obtain ⟨t2, a1, b1⟩ := kk r u t T'.heap (locs ++ L) e1.symm (by rw [← e2]; exact X'.warmed.alike) hp hb k1 k2 k3 T' rfl X'
    exact ⟨t2, st t2 a1, b1⟩
  · obtain ⟨k1, k2, k3⟩ := vx_keep h0 e1 hS hAX hf hL hF
    obtain ⟨t2, a1, b1⟩ := kx E ce q u t T'.heap (locs ++ L) e1.symm (by rw [← e2]; exact X'.warmed.alike) hp hb k1 k2 k3 (by rw [e1]; exact hce) hcv hcl T' rfl X'
    exact ⟨t2, st.trans a1, b1⟩
theorem vx_calld {S SX : Type} {post : UInt64 → S → Prop} {px : SX → Prop} {B : S → State → Prop} {BX : String → SX → State → Prop} {AX : Nat → Prop} (hr : vx_Run p l e R s m args below meth c H locs cells slots mc ms (F0 m pc ls st0) rest (va_Qd post B A1 a) (vx_X px BX AX) free) (hS : va_S A0 H0 H locs) (hA : ∀ q, q < H.size → A1 q → A0 q) (hf : ∀ q, free q → A0 q) (hAX : ∀ q, q < H.size → AX q → A0 q)
    (kx : ∀ (E : String) (ce : Cell) (q9 : Addr) (u : SX) (t : State) (H1 : Heap) (locs1 : List Loc), t.heap = H1 → s.vm.Alike t.vm → px u → BX E u t → H.size ≤ H1.size → (∀ q : Nat, q < H.size → ¬ AX q → H1[q]? = H[q]?) → va_S A0 H0 H1 locs1 → H1[q9]? = some ce → ce.vm = .none → s.vm.findClass E = some ce.cls → vx_W p l e R s m args below meth c H1 locs1 (cells + mc) (slots + ms) Q (F0 m pc ls rest) q9)
    (kk : ∀ (r : UInt64) (u : S) (t : State) (H1 : Heap) (locs1 : List Loc), t.heap = H1 → s.vm.Alike t.vm → post r u → B u t → H.size ≤ H1.size → (∀ q : Nat, q < H.size → ¬ A1 q → H1[q]? = H[q]?) → va_S A0 H0 H1 locs1 → W p l e R s m args below meth c H1 locs1 (cells + mc) (slots + ms) Q (F0 m (pc + 3) ls (.double r :: rest))) : W p l e R s m args below meth c H locs cells slots Q (F0 m pc ls st0) := by
  intro T hT X
  rcases hr T hT X with ⟨v, st₀, t, T', L, h0, X', hL, e1, e2, ⟨⟨r, u, hv, hp, hb⟩, hF⟩, st⟩ | ⟨q, st₀, t, T', L, E, ce, h0, X', hL, e1, e2, ⟨u, hp, hb, hF⟩, hce, hcv, hcl, st⟩
  · cases hv
    obtain ⟨k1, k2, k3⟩ := vx_keep h0 e1 hS hA hf hL hF
    obtain ⟨t2, a1, b1⟩ := kk r u t T'.heap (locs ++ L) e1.symm (by rw [← e2]; exact X'.warmed.alike) hp hb k1 k2 k3 T' rfl X'
    exact ⟨t2, st t2 a1, b1⟩
  · obtain ⟨k1, k2, k3⟩ := vx_keep h0 e1 hS hAX hf hL hF
    obtain ⟨t2, a1, b1⟩ := kx E ce q u t T'.heap (locs ++ L) e1.symm (by rw [← e2]; exact X'.warmed.alike) hp hb k1 k2 k3 (by rw [e1]; exact hce) hcv hcl T' rfl X'
    exact ⟨t2, st.trans a1, b1⟩
theorem vx_callv {S SX : Type} {post : S → Prop} {px : SX → Prop} {B : S → State → Prop} {BX : String → SX → State → Prop} {AX : Nat → Prop} (hr : vx_Run p l e R s m args below meth c H locs cells slots mc ms (F0 m pc ls st0) rest (va_Qv post B A1 a) (vx_X px BX AX) free) (hS : va_S A0 H0 H locs) (hA : ∀ q, q < H.size → A1 q → A0 q) (hf : ∀ q, free q → A0 q) (hAX : ∀ q, q < H.size → AX q → A0 q)
    (kx : ∀ (E : String) (ce : Cell) (q9 : Addr) (u : SX) (t : State) (H1 : Heap) (locs1 : List Loc), t.heap = H1 → s.vm.Alike t.vm → px u → BX E u t → H.size ≤ H1.size → (∀ q : Nat, q < H.size → ¬ AX q → H1[q]? = H[q]?) → va_S A0 H0 H1 locs1 → H1[q9]? = some ce → ce.vm = .none → s.vm.findClass E = some ce.cls → vx_W p l e R s m args below meth c H1 locs1 (cells + mc) (slots + ms) Q (F0 m pc ls rest) q9)
    (kk : ∀ (u : S) (t : State) (H1 : Heap) (locs1 : List Loc), t.heap = H1 → s.vm.Alike t.vm → post u → B u t → H.size ≤ H1.size → (∀ q : Nat, q < H.size → ¬ A1 q → H1[q]? = H[q]?) → va_S A0 H0 H1 locs1 → W p l e R s m args below meth c H1 locs1 (cells + mc) (slots + ms) Q (F0 m (pc + 3) ls (rest))) : W p l e R s m args below meth c H locs cells slots Q (F0 m pc ls st0) := by
  intro T hT X
  rcases hr T hT X with ⟨v, st₀, t, T', L, h0, X', hL, e1, e2, ⟨⟨u, hv, hp, hb⟩, hF⟩, st⟩ | ⟨q, st₀, t, T', L, E, ce, h0, X', hL, e1, e2, ⟨u, hp, hb, hF⟩, hce, hcv, hcl, st⟩
  · cases hv
    obtain ⟨k1, k2, k3⟩ := vx_keep h0 e1 hS hA hf hL hF
    obtain ⟨t2, a1, b1⟩ := kk u t T'.heap (locs ++ L) e1.symm (by rw [← e2]; exact X'.warmed.alike) hp hb k1 k2 k3 T' rfl X'
    exact ⟨t2, st t2 a1, b1⟩
  · obtain ⟨k1, k2, k3⟩ := vx_keep h0 e1 hS hAX hf hL hF
    obtain ⟨t2, a1, b1⟩ := kx E ce q u t T'.heap (locs ++ L) e1.symm (by rw [← e2]; exact X'.warmed.alike) hp hb k1 k2 k3 (by rw [e1]; exact hce) hcv hcl T' rfl X'
    exact ⟨t2, st.trans a1, b1⟩
/-- caught by the row x of this method's table; the rows ahead don't take it -/
theorem vx_catch {own name : String} {E : String} {ce : Cell} {q : Addr} (hown : s.vm.findClass own = some m.cls) (pre : List ExceptionTableEntry) (x : ExceptionTableEntry) (suf : List ExceptionTableEntry) (hsplit : c.exceptionTable.toList = pre ++ x :: suf)
    (hpass : ∀ z ∈ pre, covers z pc = false ∨ (z.catchType ≠ 0 ∧ ∃ nm : String, (Cond.classLink own z.catchType nm).before args s = true ∧ va_Nc E nm s)) (hx : covers x pc = true) (h0 : x.catchType ≠ 0)
    (hlink : (Cond.classLink own x.catchType name).before args s = true) (hcast : (Cond.castable E name).before args s = true) (hcell : H[q]? = some ce) (hv : ce.vm = .none) (hcl : s.vm.findClass E = some ce.cls)
    (kk : W p l e R s m args below meth c H locs cells slots Q (F0 m x.handlerPc ls [.ref q])) : vx_W p l e R s m args below meth c H locs cells slots Q (F0 m pc ls rest) q := by
  intro T hT X
  have hpl : e.platform.magicAccessors = ({} : Platform).magicAccessors := by rw [X.admits.platform]
  obtain ⟨c3, c4, hc3, hc4, hasg⟩ := Cond.castable_spec hcast
  cases Option.some.inj (hc3.symm.trans hcl)
  obtain ⟨c5, hc5, hcl5⟩ := Cond.classLink_spec hown hlink e.platform hpl
  cases Option.some.inj (hc4.symm.trans hc5)
  obtain ⟨vm', X', st⟩ := X.thenCaughtThrough q (g := F0 m pc ls rest) rfl (Steps.refl _) (by rw [hT]; exact hcell) (by rw [hv]; rfl) (by obtain ⟨k9, h9, -⟩ := Vm.findClass_spec hcl; exact ⟨k9, h9⟩) pre x suf hsplit
    (fun z hz => by
      rcases hpass z hz with h | ⟨hz0, nm, hl1, hn1⟩
      · exact Or.inl h
      · obtain ⟨c6, hc6, hcl6⟩ := Cond.classLink_spec hown hl1 e.platform hpl
        obtain ⟨a8, b8, h1, h2, h3⟩ := hn1
        cases Option.some.inj (h1.symm.trans hcl)
        cases Option.some.inj (h2.symm.trans hc6)
        exact Or.inr ⟨hz0, _, hcl6, h3⟩) hx (Or.inr ⟨h0, c4, hcl5, hasg⟩)
  obtain ⟨t, a1, b1⟩ := kk (T.setVm vm') hT X'
  exact ⟨t, st.trans a1, b1⟩
end Rows
section Ends
variable {p : Program} {l : Launch} {e : Env} {R : Room} {s : State} {m : MethodId} {args : Array Value} {below : List Frame} {meth : Method} {c : Code} {H : Heap} {locs : List Loc} {cells slots : Nat} {Q : State → Prop}
variable {mc ms : Nat} {free : Addr → Prop} {A0 A1 : Nat → Prop} {H0 : Heap} {a : Array Value} {ls : Array Slot} {st0 rest : List Value}
variable {Qc : Array Value → State → Outcome → State → Prop} {XC : String → State → State → Prop}
/-- what a body that may throw owes at its end -/
def vx_MQ (below : List Frame) (Qc : Array Value → State → Outcome → State → Prop) (XC : String → State → State → Prop) (a : Array Value) (s : State) (mc ms : Nat) (free : Addr → Prop) : State → Prop := fun t =>
  ∃ o, t.status = .running ∧ Ended t below o ∧ vx_Q Qc XC mc ms free a s o t
theorem vx_ret {g : JFrame} {mc ms : Nat} (k : W p l e R s m args below meth c H locs cells slots (MQ below Qc args s mc ms free) g) : W p l e R s m args below meth c H locs cells slots (vx_MQ below Qc XC args s mc ms free) g := by
  intro T hT X
  obtain ⟨t, a1, o, b1, b2, b3, b4⟩ := k T hT X
  exact ⟨t, a1, o, b1, b2, Or.inl ⟨b3, b4⟩⟩
/-- not caught here: it goes on to the caller -/
theorem vx_widen {g : JFrame} {q : Addr} {k n : Nat} (h1 : cells ≤ k) (h2 : slots ≤ n) (kk : vx_W p l e R s m args below meth c H locs k n Q g q) : vx_W p l e R s m args below meth c H locs cells slots Q g q := fun T hT X => kk T hT (stand_widen X h1 h2)
theorem vx_out {pc : Nat} {E : String} {ce : Cell} {q : Addr} {mc ms : Nat} (hout : ∀ x ∈ c.exceptionTable.toList, covers x pc = false) (hlocks : meth.locks = false) (hcell : H[q]? = some ce) (hv : ce.vm = .none) (hcl : s.vm.findClass E = some ce.cls)
    (hx : ∀ t : State, t.heap = H → s.vm.Alike t.vm → XC E s t) (hf : ∀ z ∈ locs, free z.base) (hc : cells ≤ mc) (hs : slots ≤ ms) :
    vx_W p l e R s m args below meth c H locs cells slots (vx_MQ below Qc XC args s mc ms free) (F0 m pc ls rest) q := by
  intro T hT X
  obtain ⟨st1, hrun, hend, hW, hsm⟩ := X.leaveThrown q (g := F0 m pc ls rest) rfl rfl rfl hout hlocks
  have hcell9 : (T.setFrames (.throwing q :: below)).heap[q]? = some ce := by
    show T.heap[q]? = some ce
    rw [hT]; exact hcell
  exact ⟨_, st1, .threw q, hrun, hend, Or.inr ⟨q, rfl, E, ce, locs, hx _ hT hW.alike, hcell9, hv, hcl, hW, hsm.mono hc hs, hf⟩⟩
theorem vx_frame {U : State} {k n : Nat} (h : s.sameButNew ({ U with vm := s.vm } : State) locs k n) : s.heap.size ≤ U.heap.size ∧ ∀ q : Nat, q < s.heap.size → (∀ z ∈ locs, z.base ≠ q) → U.heap[q]? = s.heap[q]? := by
  obtain ⟨-, h2, -, -, -, h6⟩ := h
  refine ⟨h2, fun q hq hz => ?_⟩
  obtain ⟨c9, e1, e2, e3, e4⟩ := h6 q _ (Array.getElem?_eq_getElem hq)
  have hs : c9.slots = (s.heap[q]).slots := Array.ext_getElem? fun i => e4 i fun hm => hz _ hm rfl
  have h9 : c9 = s.heap[q] := by
    rw [hs] at e2
    exact e2
  have e5 : U.heap[q]? = some c9 := e1
  rw [e5, h9, Array.getElem?_eq_getElem hq]
/-- the words of a throw but the four that speak of the heap -/
def vx_no (w : Cond) : Bool := decide (w ≠ .isRef (.static Bundle.tN "UNASSIGNED_STACK" Bundle.steD)) && decide (w ≠ .isRef (.static Bundle.tN "SUPPRESSED_SENTINEL" Bundle.listD)) && decide (w ≠ .laysStatic Bundle.tN "UNASSIGNED_STACK" Bundle.steD) && decide (w ≠ .laysStatic Bundle.tN "SUPPRESSED_SENTINEL" Bundle.listD)
def vx_at0 (own : String) (ic : Nat) (X : String) (names : List String) : List Cond := (Bundle.ownAtoms0 own ic X names).filter vx_no
def vx_atS (own : String) (ic : Nat) (X : String) (names : List String) : List Cond := (Bundle.ownAtoms own ic X names).filter vx_no
/-- a word that the tables alone decide, or a good one -/
def vx_ot (w : Cond) : Bool := w.onTables || goodWord w
theorem vx_ot_at {args a' : Array Value} {s U : State} {w : Cond} (hW : s.WarmedH U.vm) (hvm : s.vm = U.vm) (hg : vx_ot w = true) (h : w.before args s = true) : w.before a' U = true := by
  simp only [vx_ot, Bool.or_eq_true] at hg
  rcases hg with hg | hg
  · exact va_tabs hg hvm h
  · exact word_at hW (good_of_word hg) h
/-- a list's words: the good ones out of the method's own list, the others by premises of their own -/
theorem vx_hat {args : Array Value} {s : State} {L B : List Cond} (h1 : ∀ w ∈ L.filter goodWord, w.before args s = true) (h2 : ∀ w ∈ L.filter (fun w => !goodWord w), w ∈ B) (h3 : ∀ w ∈ B, w.before args s = true) : ∀ w ∈ L, w.before args s = true := by
  intro w hw
  by_cases g : goodWord w = true
  · exact h1 w (List.mem_filter.mpr ⟨hw, g⟩)
  · refine h3 w (h2 w (List.mem_filter.mpr ⟨hw, ?_⟩))
    show (!goodWord w) = true
    cases hgw : goodWord w
    · rfl
    · exact absurd hgw g
theorem vx_c {args : Array Value} {s : State} {w : Cond} {B : List Cond} (h : w.before args s = true) (t : ∀ w ∈ B, w.before args s = true) : ∀ w' ∈ w :: B, w'.before args s = true := fun w' h' => (List.mem_cons.mp h').elim (fun e => by rw [e]; exact h) (t w')
theorem vx_n {args : Array Value} {s : State} : ∀ w ∈ ([] : List Cond), w.before args s = true := fun _ h => nomatch h
theorem vx_own {args : Array Value} {s : State} {L : List Cond} (h1 : ∀ w ∈ L.filter vx_no, w.before args s = true)
    (hU : (Cond.isRef (.static Bundle.tN "UNASSIGNED_STACK" Bundle.steD)).before args s = true) (hN : (Cond.isRef (.static Bundle.tN "SUPPRESSED_SENTINEL" Bundle.listD)).before args s = true)
    (lU : (Cond.laysStatic Bundle.tN "UNASSIGNED_STACK" Bundle.steD).before args s = true) (lN : (Cond.laysStatic Bundle.tN "SUPPRESSED_SENTINEL" Bundle.listD).before args s = true) : ∀ w ∈ L, w.before args s = true := by
  intro w hw
  by_cases e1 : w = .isRef (.static Bundle.tN "UNASSIGNED_STACK" Bundle.steD)
  · rw [e1]; exact hU
  · by_cases e2 : w = .isRef (.static Bundle.tN "SUPPRESSED_SENTINEL" Bundle.listD)
    · rw [e2]; exact hN
    · by_cases e3 : w = .laysStatic Bundle.tN "UNASSIGNED_STACK" Bundle.steD
      · rw [e3]; exact lU
      · by_cases e4 : w = .laysStatic Bundle.tN "SUPPRESSED_SENTINEL" Bundle.listD
        · rw [e4]; exact lN
        · exact h1 w (List.mem_filter.mpr ⟨hw, by unfold vx_no; rw [decide_eq_true e1, decide_eq_true e2, decide_eq_true e3, decide_eq_true e4]; rfl⟩)
/-- where a static field lies, its class's statics cell in H -/
def vx_L (C n d : String) (A : Nat → Prop) (U : State) (H : Heap) : Prop := ∃ (c : ClassId) (k : Class) (i : Nat) (f : Field) (a : Nat) (cell : Cell), U.vm.findClass C = some c ∧ U.fieldFound? C n d = some (c, k, i, f) ∧ f.isStatic = true ∧ k.statics = some a ∧ H[a]? = some cell ∧ cell.vm.isStatics = true ∧ cell.cls = c ∧ f.slot < cell.slots.size ∧ k.staticTypes[f.slot]? = some f.type ∧ ¬ A a
theorem vx_L.moved {C n d : String} {A : Nat → Prop} {u U : State} {H : Heap} (hvm : u.vm.Alike U.vm) (h : vx_L C n d A u H) : vx_L C n d A U H := by
  obtain ⟨c, k, i, f, a, cell, h1, h2, h3, h4, h5, h6, h7, h8, h9, h10⟩ := h
  obtain ⟨k', hi', he⟩ := State.fieldFound?_setVm hvm h2
  exact ⟨c, k', i, f, a, cell, by rw [hvm.findClass]; exact h1, hi', h3, by rw [he]; exact h4, h5, h6, h7, h8, by rw [he]; exact h9, h10⟩
theorem vx_L.kept {C n d : String} {A : Nat → Prop} {U : State} {H H1 : Heap} (h : vx_L C n d A U H) (hq : ∀ a : Nat, a < H.size → ¬ A a → H1[a]? = H[a]?) : vx_L C n d A U H1 := by
  obtain ⟨c, k, i, f, a, cell, h1, h2, h3, h4, h5, h6, h7, h8, h9, h10⟩ := h
  exact ⟨c, k, i, f, a, cell, h1, h2, h3, h4, by rw [hq a (Array.getElem?_eq_some_iff.mp h5).1 h10]; exact h5, h6, h7, h8, h9, h10⟩
theorem vx_L.narrow {C n d : String} {A B : Nat → Prop} {U : State} {H : Heap} (h : vx_L C n d A U H) (hAB : ∀ q, B q → A q) : vx_L C n d B U H := by
  obtain ⟨c, k, i, f, a, cell, h1, h2, h3, h4, h5, h6, h7, h8, h9, h10⟩ := h
  exact ⟨c, k, i, f, a, cell, h1, h2, h3, h4, h5, h6, h7, h8, h9, fun z => h10 (hAB _ z)⟩
theorem vx_L.word {C n d : String} {A : Nat → Prop} {s : State} {args : Array Value} (h : vx_L C n d A s s.heap) : (Cond.laysStatic C n d).before args s = true := by
  obtain ⟨c, k, i, f, a, cell, h1, h2, h3, h4, h5, h6, h7, h8, h9, -⟩ := h
  show (Cond.laysStatic C n d).holds args s none s [] = true
  exact Cond.laysStatic_of h1 h2 h3 h4 h5 h6 h7 h8 h9
/-- .. and what it holds: null or some reference -/
def vx_Zq (C n d : String) (A : Nat → Prop) (U : State) (H : Heap) : Prop := va_Zq C n d A U H ∧ vx_L C n d A U H
theorem vx_Zq.moved {C n d : String} {A : Nat → Prop} {u U : State} {H : Heap} (hvm : u.vm.Alike U.vm) (h : vx_Zq C n d A u H) : vx_Zq C n d A U H := ⟨va_Zq.moved hvm h.1, vx_L.moved hvm h.2⟩
theorem vx_Zq.kept {C n d : String} {A : Nat → Prop} {U : State} {H H1 : Heap} (h : vx_Zq C n d A U H) (hq : ∀ a : Nat, a < H.size → ¬ A a → H1[a]? = H[a]?) : vx_Zq C n d A U H1 := ⟨va_Zq.kept h.1 hq, vx_L.kept h.2 hq⟩
theorem vx_Zq.narrow {C n d : String} {A B : Nat → Prop} {U : State} {H : Heap} (h : vx_Zq C n d A U H) (hAB : ∀ q, B q → A q) : vx_Zq C n d B U H := ⟨va_Zq.narrow h.1 hAB, vx_L.narrow h.2 hAB⟩
theorem vx_Zqof {args : Array Value} {s : State} {C n d : String} {A : Nat → Prop} (hl : (Cond.laysStatic C n d).before args s = true) (hini : (Cond.initialized C).before args s = true) (h : (Cond.isRef (.static C n d)).before args s = true) (hA : ∀ a : Nat, a < s.heap.size → ¬ A a) : vx_Zq C n d A s s.heap := by
  refine ⟨va_Zqof hl hini h hA, ?_⟩
  obtain ⟨c, k, i, f, a, cell, h1, h2, h3, h4, h5, h6, h7, h8, h9⟩ := Cond.laysStatic_spec hl
  exact ⟨c, k, i, f, a, cell, h1, h2, h3, h4, h5, h6, h7, h8, h9, hA a (Array.getElem?_eq_some_iff.mp h5).1⟩
theorem vx_isRef {C n d : String} {v : Value} {A : Nat → Prop} {s : State} {args : Array Value} (h : va_Z C n d v A s s.heap) (hv : v.isRef = true) : (Cond.isRef (.static C n d)).before args s = true := by
  obtain ⟨cf, kf, fi, f, a, cell, h1, h2, h3, h4, h5, h6, h7, -⟩ := h
  have he : (Term.static C n d).eval args s none [] s = some v := by
    simp [Term.eval, State.fieldNamed?, h1, h2, h4, h5, h6, h7]
  simp only [Cond.before, Cond.holds, Cond.value, he]
  cases v <;> simp_all [Value.isRef]
theorem vx_isRefq {C n d : String} {A : Nat → Prop} {s : State} {args : Array Value} (h : va_Zq C n d A s s.heap) : (Cond.isRef (.static C n d)).before args s = true := by
  rcases h with h | ⟨t, h⟩
  · exact vx_isRef h rfl
  · exact vx_isRef h rfl
/-- the same frame, seen from here: as if the method were called anew in this heap -/
theorem vx_rebase {T : State} (X : Stand p l e R s m args below meth c T locs cells slots) {R' : Room} (hf : R'.frames ≤ R.frames) (hl : R'.locals ≤ R.locals) (hc : cells + R'.cells ≤ R.cells) (hs : slots + R'.slots ≤ R.slots) :
    Stand p l e R' ((T.setVm s.vm).setFrames (.invoking m args :: below)) m args below meth c T [] 0 0 := by
  have htop : (T.setVm s.vm).topJava?.isSome := X.here.top
  have hF : ((T.setVm s.vm).setFrames (.invoking m args :: below)).frames = .invoking m args :: below := State.frames_setFrames _ (State.cur_lt_of_top htop)
  obtain ⟨g₀, hg0⟩ := Option.isSome_iff_exists.mp htop
  obtain ⟨r, hr⟩ := State.topJava?_eq_some.mp hg0
  have hl9 : e.platform.stackLimits (T.setVm s.vm).me = e.platform.stackLimits s.me := X.limits
  have hb9 : (T.setVm s.vm).me.stackBytes = s.me.stackBytes := X.bytes
  refine ⟨X.admits, X.cas, X.clock, hF, ?_, X.hears, X.method, X.code, X.here, X.tail, X.warmed, ?_, ?_, ?_⟩
  · have h := X.room
    have hU : ((T.setVm s.vm).setFrames (.invoking m args :: below)).localsInUse = s.localsInUse := by
      rw [State.localsInUse_invoking hF (meth := meth) (c := c) X.method X.code, State.localsInUse_invoking X.frames X.method X.code]
    simp only [State.hasRoom, Bool.and_eq_true, decide_eq_true_eq] at h ⊢
    obtain ⟨⟨⟨⟨h1, h2, h3, h4, h5, h6⟩, h7⟩, h8⟩, h9⟩ := h
    rw [X.frames, List.length_cons] at h2 h3
    have q1 := X.heapSize
    have q2 := X.used
    simp only [hF, hU, List.length_cons, State.stackLimits_setFrames, State.stackBytes_setFrames, hl9, hb9]
    refine ⟨⟨⟨⟨by omega, by omega, by omega, by omega, by omega, h6⟩, ?_⟩, ?_⟩, X.book⟩
    · show T.heap.size + R'.cells ≤ e.platform.maxCells
      omega
    · show T.slotsUsed + R'.slots ≤ e.platform.maxSlots
      omega
  · rw [State.stackLimits_setFrames]; rfl
  · rw [State.stackBytes_setFrames]; rfl
  · refine ⟨?_, Nat.le_refl _, Nat.le_refl _, ?_, ?_, fun a c9 h9 => ⟨c9, h9, rfl, rfl, fun _ _ => rfl⟩⟩
    · obtain ⟨t, ht, -⟩ := State.frames_cons hr
      show T.setVm s.vm = { ((T.setVm s.vm).setFrames (.invoking m args :: below)).setFrames (T.setVm s.vm).frames with heap := T.heap, slotsUsed := T.slotsUsed }
      rw [State.setFrames_setFrames, State.setFrames_self ht]
      rfl
    · show T.slotsUsed = T.slotsUsed + ((T.heap.toList.drop T.heap.size).map (·.slots.size)).sum
      rw [List.drop_eq_nil_of_le (Nat.le_of_eq Array.length_toList)]
      rfl
    · show ((T.heap.toList.drop T.heap.size).map (·.slots.size)).sum ≤ 0
      rw [List.drop_eq_nil_of_le (Nat.le_of_eq Array.length_toList)]
      exact Nat.le_refl _
/-- 'throw new E()': new; dup; invokespecial; athrow -/
theorem vx_throw0 {cc : ByteArray} {pc : Nat} (hexec : p.tables.exec = Jvm.exec) (hb : c.code = cc) (hl : l.stackTraces = false) {own cls : String} {names : List String} {ik ic mc ms : Nat} {A : Nat → Prop}
    (hown : s.vm.findClass own = some m.cls) (hcls : Bundle.fit cls = true) (hnames : ∀ n ∈ names, Bundle.fit n = true)
    (hk : (Cond.classLink own ik cls).before args s = true) (hini : (Cond.initialized cls).before args s = true) (hat : ∀ w ∈ vx_at0 own ic cls names, w.before args s = true)
    (hgood : ∀ w ∈ Cond.classLink own ik cls :: Cond.initialized cls :: vx_at0 own ic cls names, vx_ot w = true)
    (hU : vx_Zq Bundle.tN "UNASSIGNED_STACK" Bundle.steD A s s.heap) (hN : vx_Zq Bundle.tN "SUPPRESSED_SENTINEL" Bundle.listD A s s.heap) (hS : va_S A s.heap H locs) (hsize : ls.size = c.maxLocals)
    (d0 : decode cc pc = .ok (.new ik, 3)) (d3 : decode cc (pc + 3) = .ok (.dup, 1)) (d4 : decode cc (pc + 4) = .ok (.invokespecial ic, 3)) (d7 : decode cc (pc + 7) = .ok (.athrow, 1))
    (hout : ∀ x ∈ c.exceptionTable.toList, covers x (pc + 7) = false)
    (hRframes : names.length + 3 < R.frames) (hRlocals : (rest.map fun v => v.category).sum + (13 * (names.length + 1) + 42) ≤ R.locals) (hRcells : cells + 1 ≤ R.cells) (hRslots : slots + 6 ≤ R.slots) (hlocks : meth.locks = false)
    (hx : ∀ t : State, s.vm.Alike t.vm → H.size ≤ t.heap.size → (∀ q : Nat, q < H.size → t.heap[q]? = H[q]?) → XC cls s t)
    (hf : ∀ z ∈ locs, free z.base) (hc : cells + 1 ≤ mc) (hs : slots + 6 ≤ ms) :
    W p l e R s m args below meth c H locs cells slots (vx_MQ below Qc XC args s mc ms free) (F0 m pc ls rest) := by
  intro T hT X
  have htr : e.platform.stackTraces = false := (show e.platform.stackTraces = l.stackTraces by rw [X.admits.platform]).trans hl
  have Y := vx_rebase X (R' := { frames := R.frames, locals := R.locals, cells := 1, slots := 6 }) (Nat.le_refl _) (Nat.le_refl _) hRcells hRslots
  obtain ⟨s', hA⟩ : ∃ z, z = (T.setVm s.vm).setFrames (.invoking m args :: below) := ⟨_, rfl⟩
  rw [← hA] at Y
  have hvm : s'.vm = s.vm := by rw [hA]; rfl
  have hhp : s'.heap = H := by rw [hA]; exact hT
  have hW0 : s.WarmedH s'.vm := by rw [hvm]; exact State.WarmedH.refl s
  have hat' : ∀ w ∈ vx_at0 own ic cls names, w.before args s' = true := fun w hw => vx_ot_at hW0 hvm.symm (hgood w (List.mem_cons_of_mem _ (List.mem_cons_of_mem _ hw))) (hat w hw)
  have hk' : (Cond.classLink own ik cls).before args s' = true := vx_ot_at hW0 hvm.symm (hgood _ List.mem_cons_self) hk
  have hini' : (Cond.initialized cls).before args s' = true := vx_ot_at hW0 hvm.symm (hgood _ (List.mem_cons_of_mem _ List.mem_cons_self)) hini
  have hU' : vx_Zq Bundle.tN "UNASSIGNED_STACK" Bundle.steD A s' s'.heap := by rw [hhp]; exact vx_Zq.moved hW0.alike (hU.kept hS.2.1)
  have hN' : vx_Zq Bundle.tN "SUPPRESSED_SENTINEL" Bundle.listD A s' s'.heap := by rw [hhp]; exact vx_Zq.moved hW0.alike (hN.kept hS.2.1)
  have h : ∀ w ∈ Bundle.ownAtoms0 own ic cls names, w.before args s' = true := vx_own hat' (vx_isRefq hU'.1) (vx_isRefq hN'.1) hU'.2.word hN'.2.word
  have hown' : s'.vm.findClass own = some m.cls := by rw [hvm]; exact hown
  have hins : (Cond.instantiable cls 6).before args s' = true := h _ (by simp [Bundle.ownAtoms0])
  obtain ⟨vm₁, cX, kX, hfX, hkX, -, -, X₁, st1⟩ := Y.newCold hexec (own := own) (C := cls) (index := ik) (n := 6) hown' hk' hins hini'
    (g := F0 m pc ls rest) rfl (by rw [hb]; exact d0) (Nat.le_refl _) (Nat.le_refl _)
  generalize hT1 : (T.setVm vm₁).pushCell { cls := cX, slots := kX.instanceTypes.map defaultValue, vm := .none } = T1 at X₁ st1
  have hcat : (Value.ref T.heap.size).category = 1 := rfl
  have hcellA : T1.heap[T.heap.size]? = some (freshCell cX kX) := by rw [← hT1]; exact State.heap_pushCell_size _ _
  have d3' : decode c.code (pc + 3) = .ok (.dup, 1) := by rw [hb]; exact d3
  obtain ⟨U, hsteps, hrun, hend, hW, hsame, ce, hce, hO⟩ := X₁.ctorThrow0 hexec htr (own := own) (cls := cls) (names := names) (ic := ic) hown' hcls hnames h (fun x hx => nomatch hx) hfX hkX hcellA (by rw [hhp, hT]; exact Nat.le_refl _)
    (g := { method := m, pc := pc + 4, locals := ls, stack := .ref T.heap.size :: .ref T.heap.size :: rest, locked := none }) rfl hsize rfl rfl (rest := rest) rfl
    (by rw [hb]; exact d4) (by rw [hb]; exact d7) hout hRframes (by simp only [List.map_cons, List.sum_cons, hcat]; omega) hlocks
  obtain ⟨f1, f2⟩ := vx_frame hsame
  rw [hhp] at f1 f2
  have hWs : s.WarmedH U.vm := State.WarmedH.trans hW0 hW
  have hcl : s.vm.findClass cls = some ce.cls := by
    have h9 := hO.cls
    rw [hvm] at h9
    exact h9
  have hall : s.sameButNew ({ U with vm := s.vm } : State) locs mc ms := by
    subst hA
    obtain ⟨e1, e2⟩ := hsame
    rw [State.setFrames_setFrames] at e1
    have h2 : (T.setVm s.vm).sameButNew ({ U with vm := s.vm } : State) [] (0 + 1) (0 + 6) := ⟨e1, e2⟩
    have h3 := X.same.trans h2
    rw [List.append_nil] at h3
    exact h3.mono hc hs
  refine ⟨U, ?_, .threw T.heap.size, hrun, hend, Or.inr ⟨T.heap.size, rfl, cls, ce, locs, hx U hWs.alike f1 (fun q hq => f2 q hq (fun z hz => nomatch hz)), hce, hO.vm, hcl, hWs, hall, hf⟩⟩
  refine st1 _ ?_
  show Steps p.tables e below (T1.setTop { method := m, pc := pc + 3, locals := ls, stack := .ref T.heap.size :: rest, locked := none }) _
  jvm_step X₁.here [X₁.here.top, hexec, d3', Value.category]
  exact hsteps
/-- 'throw new E("text")': new; dup; ldc; invokespecial; athrow -/
theorem vx_throwS {cc : ByteArray} {pc : Nat} (hexec : p.tables.exec = Jvm.exec) (hb : c.code = cc) (hl : l.stackTraces = false) {own cls text : String} {names : List String} {ik is ic mc ms sa : Nat} {A : Nat → Prop}
    (hown : s.vm.findClass own = some m.cls) (hcls : Bundle.fit cls = true) (hnames : ∀ n ∈ names, Bundle.fit n = true)
    (hk : (Cond.classLink own ik cls).before args s = true) (hini : (Cond.initialized cls).before args s = true) (hstr : vk_R own is text sa s) (hat : ∀ w ∈ vx_atS own ic cls names, w.before args s = true)
    (hgood : ∀ w ∈ Cond.classLink own ik cls :: Cond.initialized cls :: vx_atS own ic cls names, vx_ot w = true)
    (hU : vx_Zq Bundle.tN "UNASSIGNED_STACK" Bundle.steD A s s.heap) (hN : vx_Zq Bundle.tN "SUPPRESSED_SENTINEL" Bundle.listD A s s.heap) (hS : va_S A s.heap H locs) (hsize : ls.size = c.maxLocals)
    (d0 : decode cc pc = .ok (.new ik, 3)) (d3 : decode cc (pc + 3) = .ok (.dup, 1)) (d4 : decode cc (pc + 4) = .ok (.ldc is, 2)) (d6 : decode cc (pc + 6) = .ok (.invokespecial ic, 3)) (d9 : decode cc (pc + 9) = .ok (.athrow, 1))
    (hout : ∀ x ∈ c.exceptionTable.toList, covers x (pc + 9) = false)
    (hRframes : names.length + 3 < R.frames) (hRlocals : (rest.map fun v => v.category).sum + (13 * (names.length + 1) + 43) ≤ R.locals) (hRcells : cells + 1 ≤ R.cells) (hRslots : slots + 6 ≤ R.slots) (hlocks : meth.locks = false)
    (hx : ∀ t : State, s.vm.Alike t.vm → H.size ≤ t.heap.size → (∀ q : Nat, q < H.size → t.heap[q]? = H[q]?) → XC cls s t)
    (hf : ∀ z ∈ locs, free z.base) (hc : cells + 1 ≤ mc) (hs : slots + 6 ≤ ms) :
    W p l e R s m args below meth c H locs cells slots (vx_MQ below Qc XC args s mc ms free) (F0 m pc ls rest) := by
  intro T hT X
  have htr : e.platform.stackTraces = false := (show e.platform.stackTraces = l.stackTraces by rw [X.admits.platform]).trans hl
  have Y := vx_rebase X (R' := { frames := R.frames, locals := R.locals, cells := 1, slots := 6 }) (Nat.le_refl _) (Nat.le_refl _) hRcells hRslots
  obtain ⟨s', hA⟩ : ∃ z, z = (T.setVm s.vm).setFrames (.invoking m args :: below) := ⟨_, rfl⟩
  rw [← hA] at Y
  have hvm : s'.vm = s.vm := by rw [hA]; rfl
  have hhp : s'.heap = H := by rw [hA]; exact hT
  have hW0 : s.WarmedH s'.vm := by rw [hvm]; exact State.WarmedH.refl s
  have hat' : ∀ w ∈ vx_atS own ic cls names, w.before args s' = true := fun w hw => vx_ot_at hW0 hvm.symm (hgood w (List.mem_cons_of_mem _ (List.mem_cons_of_mem _ hw))) (hat w hw)
  have hk' : (Cond.classLink own ik cls).before args s' = true := vx_ot_at hW0 hvm.symm (hgood _ List.mem_cons_self) hk
  have hini' : (Cond.initialized cls).before args s' = true := vx_ot_at hW0 hvm.symm (hgood _ (List.mem_cons_of_mem _ List.mem_cons_self)) hini
  have hU' : vx_Zq Bundle.tN "UNASSIGNED_STACK" Bundle.steD A s' s'.heap := by rw [hhp]; exact vx_Zq.moved hW0.alike (hU.kept hS.2.1)
  have hN' : vx_Zq Bundle.tN "SUPPRESSED_SENTINEL" Bundle.listD A s' s'.heap := by rw [hhp]; exact vx_Zq.moved hW0.alike (hN.kept hS.2.1)
  have h : ∀ w ∈ Bundle.ownAtoms own ic cls names, w.before args s' = true := vx_own hat' (vx_isRefq hU'.1) (vx_isRefq hN'.1) hU'.2.word hN'.2.word
  have hown' : s'.vm.findClass own = some m.cls := by rw [hvm]; exact hown
  have hins : (Cond.instantiable cls 6).before args s' = true := h _ (by simp [Bundle.ownAtoms])
  obtain ⟨vm₁, cX, kX, hfX, hkX, -, -, X₁, st1⟩ := Y.newCold hexec (own := own) (C := cls) (index := ik) (n := 6) hown' hk' hins hini'
    (g := F0 m pc ls rest) rfl (by rw [hb]; exact d0) (Nat.le_refl _) (Nat.le_refl _)
  generalize hT1 : (T.setVm vm₁).pushCell { cls := cX, slots := kX.instanceTypes.map defaultValue, vm := .none } = T1 at X₁ st1
  have hcat : (Value.ref T.heap.size).category = 1 := rfl
  have hcellA : T1.heap[T.heap.size]? = some (freshCell cX kX) := by rw [← hT1]; exact State.heap_pushCell_size _ _
  have d3' : decode c.code (pc + 3) = .ok (.dup, 1) := by rw [hb]; exact d3
  have d4' : decode c.code (pc + 4) = .ok (.ldc is, 2) := by rw [hb]; exact d4
  have hstr' : vk_R own is text sa s' := vk_R.warm hW0 hstr
  obtain ⟨U, hsteps, hrun, hend, hW, hsame, ce, hce, hO⟩ := X₁.ctorThrowS hexec htr (own := own) (cls := cls) (names := names) (ic := ic) hown' hcls hnames h (fun x hx => nomatch hx) hfX hkX hcellA (by rw [hhp, hT]; exact Nat.le_refl _) (msg := .ref sa) rfl
    (g := { method := m, pc := pc + 6, locals := ls, stack := .ref sa :: .ref T.heap.size :: .ref T.heap.size :: rest, locked := none }) rfl hsize rfl rfl (rest := rest) rfl
    (by rw [hb]; exact d6) (by rw [hb]; exact d9) hout hRframes (by simp only [List.map_cons, List.sum_cons, hcat]; omega) hlocks
  obtain ⟨f1, f2⟩ := vx_frame hsame
  rw [hhp] at f1 f2
  have hWs : s.WarmedH U.vm := State.WarmedH.trans hW0 hW
  have hcl : s.vm.findClass cls = some ce.cls := by
    have h9 := hO.cls
    rw [hvm] at h9
    exact h9
  have hall : s.sameButNew ({ U with vm := s.vm } : State) locs mc ms := by
    subst hA
    obtain ⟨e1, e2⟩ := hsame
    rw [State.setFrames_setFrames] at e1
    have h2 : (T.setVm s.vm).sameButNew ({ U with vm := s.vm } : State) [] (0 + 1) (0 + 6) := ⟨e1, e2⟩
    have h3 := X.same.trans h2
    rw [List.append_nil] at h3
    exact h3.mono hc hs
  refine ⟨U, ?_, .threw T.heap.size, hrun, hend, Or.inr ⟨T.heap.size, rfl, cls, ce, locs, hx U hWs.alike f1 (fun q hq => f2 q hq (fun z hz => nomatch hz)), hce, hO.vm, hcl, hWs, hall, hf⟩⟩
  refine st1 _ ?_
  show Steps p.tables e below (T1.setTop { method := m, pc := pc + 3, locals := ls, stack := .ref T.heap.size :: rest, locked := none }) _
  jvm_step X₁.here [X₁.here.top, hexec, d3', Value.category]
  exact X₁.ldcString hexec (own := own) (text := text) (index := is) (a := sa) hown' hstr'.1 hstr'.2
    (g := { method := m, pc := pc + 4, locals := ls, stack := .ref T.heap.size :: .ref T.heap.size :: rest, locked := none }) rfl d4' _ hsteps
/-- 'throw new E("text")', the text by a wide index -/
theorem vx_throwSW {cc : ByteArray} {pc : Nat} (hexec : p.tables.exec = Jvm.exec) (hb : c.code = cc) (hl : l.stackTraces = false) {own cls text : String} {names : List String} {ik is ic mc ms sa : Nat} {A : Nat → Prop}
    (hown : s.vm.findClass own = some m.cls) (hcls : Bundle.fit cls = true) (hnames : ∀ n ∈ names, Bundle.fit n = true)
    (hk : (Cond.classLink own ik cls).before args s = true) (hini : (Cond.initialized cls).before args s = true) (hstr : vk_R own is text sa s) (hat : ∀ w ∈ vx_atS own ic cls names, w.before args s = true)
    (hgood : ∀ w ∈ Cond.classLink own ik cls :: Cond.initialized cls :: vx_atS own ic cls names, vx_ot w = true)
    (hU : vx_Zq Bundle.tN "UNASSIGNED_STACK" Bundle.steD A s s.heap) (hN : vx_Zq Bundle.tN "SUPPRESSED_SENTINEL" Bundle.listD A s s.heap) (hS : va_S A s.heap H locs) (hsize : ls.size = c.maxLocals)
    (d0 : decode cc pc = .ok (.new ik, 3)) (d3 : decode cc (pc + 3) = .ok (.dup, 1)) (d4 : decode cc (pc + 4) = .ok (.ldc_w is, 3)) (d7 : decode cc (pc + 7) = .ok (.invokespecial ic, 3)) (d10 : decode cc (pc + 10) = .ok (.athrow, 1))
    (hout : ∀ x ∈ c.exceptionTable.toList, covers x (pc + 10) = false)
    (hRframes : names.length + 3 < R.frames) (hRlocals : (rest.map fun v => v.category).sum + (13 * (names.length + 1) + 43) ≤ R.locals) (hRcells : cells + 1 ≤ R.cells) (hRslots : slots + 6 ≤ R.slots) (hlocks : meth.locks = false)
    (hx : ∀ t : State, s.vm.Alike t.vm → H.size ≤ t.heap.size → (∀ q : Nat, q < H.size → t.heap[q]? = H[q]?) → XC cls s t)
    (hf : ∀ z ∈ locs, free z.base) (hc : cells + 1 ≤ mc) (hs : slots + 6 ≤ ms) :
    W p l e R s m args below meth c H locs cells slots (vx_MQ below Qc XC args s mc ms free) (F0 m pc ls rest) := by
  intro T hT X
  have htr : e.platform.stackTraces = false := (show e.platform.stackTraces = l.stackTraces by rw [X.admits.platform]).trans hl
  have Y := vx_rebase X (R' := { frames := R.frames, locals := R.locals, cells := 1, slots := 6 }) (Nat.le_refl _) (Nat.le_refl _) hRcells hRslots
  obtain ⟨s', hA⟩ : ∃ z, z = (T.setVm s.vm).setFrames (.invoking m args :: below) := ⟨_, rfl⟩
  rw [← hA] at Y
  have hvm : s'.vm = s.vm := by rw [hA]; rfl
  have hhp : s'.heap = H := by rw [hA]; exact hT
  have hW0 : s.WarmedH s'.vm := by rw [hvm]; exact State.WarmedH.refl s
  have hat' : ∀ w ∈ vx_atS own ic cls names, w.before args s' = true := fun w hw => vx_ot_at hW0 hvm.symm (hgood w (List.mem_cons_of_mem _ (List.mem_cons_of_mem _ hw))) (hat w hw)
  have hk' : (Cond.classLink own ik cls).before args s' = true := vx_ot_at hW0 hvm.symm (hgood _ List.mem_cons_self) hk
  have hini' : (Cond.initialized cls).before args s' = true := vx_ot_at hW0 hvm.symm (hgood _ (List.mem_cons_of_mem _ List.mem_cons_self)) hini
  have hU' : vx_Zq Bundle.tN "UNASSIGNED_STACK" Bundle.steD A s' s'.heap := by rw [hhp]; exact vx_Zq.moved hW0.alike (hU.kept hS.2.1)
  have hN' : vx_Zq Bundle.tN "SUPPRESSED_SENTINEL" Bundle.listD A s' s'.heap := by rw [hhp]; exact vx_Zq.moved hW0.alike (hN.kept hS.2.1)
  have h : ∀ w ∈ Bundle.ownAtoms own ic cls names, w.before args s' = true := vx_own hat' (vx_isRefq hU'.1) (vx_isRefq hN'.1) hU'.2.word hN'.2.word
  have hown' : s'.vm.findClass own = some m.cls := by rw [hvm]; exact hown
  have hins : (Cond.instantiable cls 6).before args s' = true := h _ (by simp [Bundle.ownAtoms])
  obtain ⟨vm₁, cX, kX, hfX, hkX, -, -, X₁, st1⟩ := Y.newCold hexec (own := own) (C := cls) (index := ik) (n := 6) hown' hk' hins hini'
    (g := F0 m pc ls rest) rfl (by rw [hb]; exact d0) (Nat.le_refl _) (Nat.le_refl _)
  generalize hT1 : (T.setVm vm₁).pushCell { cls := cX, slots := kX.instanceTypes.map defaultValue, vm := .none } = T1 at X₁ st1
  have hcat : (Value.ref T.heap.size).category = 1 := rfl
  have hcellA : T1.heap[T.heap.size]? = some (freshCell cX kX) := by rw [← hT1]; exact State.heap_pushCell_size _ _
  have d3' : decode c.code (pc + 3) = .ok (.dup, 1) := by rw [hb]; exact d3
  have d4' : decode c.code (pc + 4) = .ok (.ldc_w is, 3) := by rw [hb]; exact d4
  have hstr' : vk_R own is text sa s' := vk_R.warm hW0 hstr
  obtain ⟨U, hsteps, hrun, hend, hW, hsame, ce, hce, hO⟩ := X₁.ctorThrowS hexec htr (own := own) (cls := cls) (names := names) (ic := ic) hown' hcls hnames h (fun x hx => nomatch hx) hfX hkX hcellA (by rw [hhp, hT]; exact Nat.le_refl _) (msg := .ref sa) rfl
    (g := { method := m, pc := pc + 7, locals := ls, stack := .ref sa :: .ref T.heap.size :: .ref T.heap.size :: rest, locked := none }) rfl hsize rfl rfl (rest := rest) rfl
    (by rw [hb]; exact d7) (by rw [hb]; exact d10) hout hRframes (by simp only [List.map_cons, List.sum_cons, hcat]; omega) hlocks
  obtain ⟨f1, f2⟩ := vx_frame hsame
  rw [hhp] at f1 f2
  have hWs : s.WarmedH U.vm := State.WarmedH.trans hW0 hW
  have hcl : s.vm.findClass cls = some ce.cls := by
    have h9 := hO.cls
    rw [hvm] at h9
    exact h9
  have hall : s.sameButNew ({ U with vm := s.vm } : State) locs mc ms := by
    subst hA
    obtain ⟨e1, e2⟩ := hsame
    rw [State.setFrames_setFrames] at e1
    have h2 : (T.setVm s.vm).sameButNew ({ U with vm := s.vm } : State) [] (0 + 1) (0 + 6) := ⟨e1, e2⟩
    have h3 := X.same.trans h2
    rw [List.append_nil] at h3
    exact h3.mono hc hs
  refine ⟨U, ?_, .threw T.heap.size, hrun, hend, Or.inr ⟨T.heap.size, rfl, cls, ce, locs, hx U hWs.alike f1 (fun q hq => f2 q hq (fun z hz => nomatch hz)), hce, hO.vm, hcl, hWs, hall, hf⟩⟩
  refine st1 _ ?_
  show Steps p.tables e below (T1.setTop { method := m, pc := pc + 3, locals := ls, stack := .ref T.heap.size :: rest, locked := none }) _
  jvm_step X₁.here [X₁.here.top, hexec, d3', Value.category]
  exact X₁.ldcStringW hexec (own := own) (text := text) (index := is) (a := sa) hown' hstr'.1 hstr'.2
    (g := { method := m, pc := pc + 4, locals := ls, stack := .ref T.heap.size :: .ref T.heap.size :: rest, locked := none }) rfl d4' _ hsteps
end Ends
section Bodies
variable {l : Launch}
theorem vx_ofW {y : MethodName} {ws ws' : List Cond} {rm : Room} {Pc : Array Value → State → Prop} {Qc : Array Value → State → Outcome → State → Prop} {XC : String → State → State → Prop} {mc ms : Nat} {free : Addr → Prop} {cc : ByteArray} {maxL : Nat} {ret : Option FieldType}
    (hy : plainName y.cls = true) (hw : ws = Cond.code y cc maxL ret :: ws')
    (body : ∀ p e s m args below meth c s₁, BodyLoose p l y (headSpec ws rm) cc maxL ret e s m args below meth c s₁ → c.maxLocals = maxL → (∀ x ∈ c.exceptionTable.toList, False) → Pc args s →
      W p l e (headSpec ws rm).room s m args below meth c s.heap [] 0 0 (vx_MQ below Qc XC args s mc ms free) (entryFrame m args maxL)) : vx_Met l y ws rm Pc Qc XC mc ms free := by
  refine MetFree.of_bodyS (code := cc) (maxLocals := maxL) (ret := ret) hy ?_ ?_
  · intro args s m h hn
    obtain ⟨meth, c, h1, h2, h3, h4, h5, h6, -, -⟩ := Cond.code_spec hn (atoms_spec (ws := ws) h _ (by rw [hw]; exact List.mem_cons_self))
    exact ⟨meth, c, h1, h2, h3, h4, h5, h6⟩
  · intro p e s m args below meth c s₁ B hml hP _
    have hh0 : s₁.heap = s.heap := by rw [B.state]; rfl
    have ht : ∀ x ∈ c.exceptionTable.toList, False := by
      obtain ⟨meth9, c9, h1, h2, -, -, -, -, h7, -⟩ := Cond.code_spec B.named (atoms_spec (ws := ws) B.pre _ (by rw [hw]; exact List.mem_cons_self))
      cases Option.some.inj (h1.symm.trans B.method)
      cases Option.some.inj (h2.symm.trans (Stand.of_body B).code)
      intro x hx
      rw [Array.isEmpty_iff.mp h7] at hx
      cases hx
    obtain ⟨t, a1, o, b1, b2, b3⟩ := body p e s m args below meth c s₁ B hml ht hP s₁ hh0 (Stand.of_body B)
    exact ⟨t, o, a1, b1, b2, b3⟩
/-- the table of a body with handlers -/
theorem vx_table {p : Program} {x y : MethodName} {S : Spec} {cc bytes : ByteArray} {maxL maxL' : Nat} {ret ret' : Option FieldType} {e : Env} {s s₁ : State} {m : MethodId} {args : Array Value} {below : List Frame} {meth : Method} {c : Code} {hh : List (Nat × Nat × Nat × Nat)}
    (B : BodyLoose p l y S cc maxL ret e s m args below meth c s₁) (h : (Cond.codeWith y bytes maxL' ret' hh).before args s = true) : c.exceptionTable.toList = tableOf hh := by
  obtain ⟨m9, meth9, c9, hn9, h1, h2, -, -, h6, -⟩ := Cond.codeWith_spec h
  cases Option.some.inj (hn9.symm.trans B.named)
  cases Option.some.inj (h1.symm.trans B.method)
  cases Option.some.inj (h2.symm.trans (Stand.of_body B).code)
  rw [← h6, table_eq]
end Bodies
end VXA
/-! ===== END ===== -/
/-! ===== BEGIN a static call of a method with an exception table ===== -/
section VXS
variable {p : Program} {l : Launch} {e : Env} {R : Room} {s : State} {m : MethodId} {args : Array Value} {below : List Frame} {meth : Method} {c : Code} {T : State} {H : Heap} {locs : List Loc} {cells slots : Nat}
abbrev vx_CSW (R : Room) (s : State) (args : Array Value) (own : String) (index : Nat) (y : MethodName) (bytes : ByteArray) (maxL : Nat) (ret : Option FieldType) (hh : List (Nat × Nat × Nat × Nat)) (ws : List Cond) (rm : Room) (mc ms n : Nat) : Prop :=
  (rm.cells = mc ∧ rm.slots = ms ∧ rm.frames + 1 ≤ R.frames ∧ 8 + (maxL + 11) + rm.locals ≤ R.locals ∧ (∀ w ∈ ws, ∀ (a' : Array Value) (U : State), s.WarmedH U.vm → w.before a' U = true) ∧ Cond.codeWith y bytes maxL ret hh ∈ ws) ∧
  (Cond.codeWith y bytes maxL ret hh).before args s = true ∧ (Cond.initialized y.cls).before args s = true ∧ (y.cls ≠ "java/lang/invoke/MethodHandle" ∧ y.cls ≠ "java/lang/invoke/VarHandle") ∧
  (∀ sig, parseMethodDescriptor y.desc = some sig → n = sig.parameters.length) ∧ (Cond.methodLink own index y).before args s = true ∧ (Cond.static y).before args s = true
theorem vx_cwSW {own : String} {index maxL mc ms : Nat} {y : MethodName} {bytes : ByteArray} {ret : Option FieldType} {hh : List (Nat × Nat × Nat × Nat)} {Ts ws ws' : List Cond} {rm : Room} (n : Nat) (ht : ∀ w ∈ Ts, w.before args s = true) (hT : GoodIn Ts (va_wsS own index y ws)) (hw : ws = Cond.codeWith y bytes maxL ret hh :: ws') (hrc : rm.cells = mc) (hrs : rm.slots = ms)
    (hd : y.cls ≠ "java/lang/invoke/MethodHandle" ∧ y.cls ≠ "java/lang/invoke/VarHandle" ∧ (parseMethodDescriptor y.desc).map (fun d => d.parameters.length) = some n) (hR : rm.frames + 1 ≤ R.frames ∧ 8 + (maxL + 11) + rm.locals ≤ R.locals) :
    vx_CSW R s args own index y bytes maxL ret hh ws rm mc ms n := by
  have ok : ∀ w ∈ va_wsS own index y ws, w.before args s = true := fun w h => ht w (hT w h).1
  have hG : GoodIn Ts ws := fun w h => hT w (by unfold va_wsS; exact List.mem_append_right _ h)
  have hc : Cond.codeWith y bytes maxL ret hh ∈ ws := by rw [hw]; exact List.mem_cons_self
  refine ⟨⟨hrc, hrs, hR.1, hR.2, pay_in ht hG, hc⟩, ht _ (hG _ hc).1, ok _ (by simp [va_wsS]), ⟨hd.1, hd.2.1⟩, fun sig h => ?_, ok _ (by simp [va_wsS]), ok _ (by simp [va_wsS])⟩
  have h2 := hd.2.2
  rw [h] at h2
  exact (Option.some.inj h2).symm
theorem vx_callSW (X : Stand p l e R s m args below meth c T locs cells slots) (hexec : p.tables.exec = Jvm.exec) {own : String} {index : Nat} {y : MethodName} {bytes : ByteArray} {maxL : Nat} {ret : Option FieldType} {hh : List (Nat × Nat × Nat × Nat)}
    (hown : s.vm.findClass own = some m.cls) (hlink : (Cond.methodLink own index y).before args s = true) (hstat : (Cond.static y).before args s = true) (hinit : (Cond.initialized y.cls).before args s = true)
    (hcode : (Cond.codeWith y bytes maxL ret hh).before args s = true) (hy : y.cls ≠ "java/lang/invoke/MethodHandle" ∧ y.cls ≠ "java/lang/invoke/VarHandle")
    {W9 : Nat} {Pre : Pt → Array Value → Prop} {Post : Pt → Array Value → Option Value → Pt → Prop} (hK : Back l R p e below s args y 3 W9 Pre Post)
    {g : JFrame} (hg : g.method = m) (hsize : g.locals.size = c.maxLocals) {argsL rest : List Value} (hlen : ∀ sig, parseMethodDescriptor y.desc = some sig → argsL.length = sig.parameters.length)
    (hstack : g.stack = argsL.reverse ++ rest) (hW : 2 * g.monitorRoom + (rest.map fun v => v.category).sum ≤ W9) (hdg : decode c.code g.pc = .ok (.invokestatic index, 3))
    (hpre : ∀ vm₁, s.WarmedH vm₁ → Pre ⟨T.setVm vm₁, locs, cells, slots⟩ argsL.toArray) :
    ∃ (v : Option Value) (vm₁ : Vm) (B : Pt), s.WarmedH vm₁ ∧ Stand p l e R s m args below meth c B.U B.locs B.cells B.slots ∧ Post ⟨T.setVm vm₁, locs, cells, slots⟩ argsL.toArray v B ∧
      ∀ target, Steps p.tables e below (B.U.setTop { g with pc := g.pc + 3, stack := v.toList ++ rest }) target → Steps p.tables e below (T.setTop g) target := by
  obtain ⟨mk, methM, cM, hnamed, hmethM, -, -, -, -, -, -, hsigM⟩ := Cond.codeWith_spec hcode
  have hstatic : methM.isStatic = true := Cond.static_spec hnamed hmethM hstat
  obtain ⟨kP, hkP, -⟩ := className_of_methodNamed hnamed
  have hinitP : kP.init = .initialized := Cond.initialized_spec (findClass_of_methodNamed hnamed) hkP hinit
  obtain ⟨vm₁, X₁, hstep₁⟩ := X.invokestatic hexec hown hlink hnamed hmethM hstatic hkP hinitP hy (g := g) hg (argsL := argsL) (rest := rest) (hlen _ hsigM) hstack hdg
  obtain ⟨v, B, X', hpost, hsteps⟩ := hK m meth c ⟨T.setVm vm₁, locs, cells, slots⟩ { g with stack := rest } (.invokestatic index) mk argsL.toArray X₁ hg hsize hdg hW (X₁.named hnamed) (hpre vm₁ X₁.warmed)
  exact ⟨v, vm₁, B, X₁.warmed, X', hpost, fun target h => hstep₁ _ fun acts => by rw [doInvoke_state]; exact hsteps.trans h⟩
theorem vx_runSW {y : MethodName} {bytes cc : ByteArray} {maxL nL mc ms n index : Nat} {ret : Option FieldType} {hh : List (Nat × Nat × Nat × Nat)} {ws : List Cond} {rm : Room} {Pc : Array Value → State → Prop} {Qc : Array Value → State → Outcome → State → Prop} {free : Addr → Prop} {Ts : List Cond} {own : String} {As rest : List Value} {g : JFrame}
    (S : CallFix p m c cc nL s args Ts own) (hM : Met l y ws rm Pc Qc mc ms free) (cw : vx_CSW R s args own index y bytes maxL ret hh ws rm mc ms n) (hp : PreS s H Pc As)
    (hg : g.method = m) (hn : As.length = n) (hsize : g.locals.size = nL) (hstack : g.stack = As.reverse ++ rest) (hW : 2 * g.monitorRoom + (rest.map fun v => v.category).sum ≤ 8) (hdg : decode cc g.pc = .ok (.invokestatic index, 3)) (hf : cells + mc ≤ R.cells ∧ slots + ms ≤ R.slots) :
    va_Run p l e R s m args below meth c H locs cells slots mc ms g rest (Qc As.toArray) (free) := by
  obtain ⟨⟨hrc, hrs, hfr, hlo, hws, hcw⟩, hcode, hini, hy, hlen, hl, hstt⟩ := cw
  have hK : Back l R p e below s args y 3 8 (PreOf R mc ms Pc) (PostOf Qc mc ms free) := va_backW (hh := hh) (bytes := bytes) (maxL := maxL) (ret := ret) hM hp.1 hrc hrs hfr hlo hws hcw (fun a' U hW => word_at hW (Or.inl (by first | rfl | simp [Cond.onTables, Cond.keeps, Cond.steady])) hini)
  obtain ⟨hx, hb, hml, ho, -⟩ := S
  intro T hT X
  obtain ⟨v, vm₁, ⟨U', l2, c2, s2⟩, hW₁, X', ⟨g', mk, t, L, e1, e2, hq, h1, hL, h2, h3⟩, st⟩ := vx_callSW X hx (hh := hh) (bytes := bytes) (maxL := maxL) (ret := ret) ho hl hstt hini hcode hy hK hg (hsize.trans hml.symm) (argsL := As) (rest := rest) (fun sig h => hn.trans (hlen sig h)) hstack hW (by rw [hb]; exact hdg)
    (fun vm₁ hW₁ => ⟨hf.1, hf.2, hp.2 (T.setVm vm₁) hT hW₁⟩)
  dsimp only [Pt.U, Pt.locs, Pt.cells, Pt.slots] at X' e1 e2 h1 h2 h3 st
  subst h1; subst h2; subst h3
  exact ⟨v, (T.setVm vm₁).calling g' mk As.toArray, t, U', L, hT, X', hL, e1, e2, hq, st⟩
/-- not caught here, past rows that name other classes: it goes on to the caller -/
theorem vx_outP {p : Program} {l : Launch} {e : Env} {R : Room} {s : State} {m : MethodId} {args : Array Value} {below : List Frame} {meth : Method} {c : Code} {H : Heap} {locs : List Loc} {cells slots : Nat} {free : Addr → Prop} {ls : Array Slot} {rest : List Value} {Qc : Array Value → State → Outcome → State → Prop} {XC : String → State → State → Prop}
    {pc : Nat} {own E : String} {ce : Cell} {q : Addr} {mc ms : Nat} (hown : s.vm.findClass own = some m.cls) (hlocks : meth.locks = false)
    (hpass : ∀ z ∈ c.exceptionTable.toList, covers z pc = false ∨ (z.catchType ≠ 0 ∧ ∃ nm : String, (Cond.classLink own z.catchType nm).before args s = true ∧ va_Nc E nm s)) (hcell : H[q]? = some ce) (hv : ce.vm = .none) (hcl : s.vm.findClass E = some ce.cls)
    (hx : ∀ t : State, t.heap = H → s.vm.Alike t.vm → XC E s t) (hf : ∀ z ∈ locs, free z.base) (hc : cells ≤ mc) (hs : slots ≤ ms) :
    vx_W p l e R s m args below meth c H locs cells slots (vx_MQ below Qc XC args s mc ms free) (F0 m pc ls rest) q := by
  intro T hT X
  have hpl : e.platform.magicAccessors = ({} : Platform).magicAccessors := by rw [X.admits.platform]
  obtain ⟨vm', hW', X', st⟩ := X.outThrough hlocks q (g := F0 m pc ls rest) rfl rfl rfl (cell := ce) (by rw [hT]; exact hcell) (by rw [hv]; rfl)
    (by obtain ⟨k9, h9, -⟩ := Vm.findClass_spec hcl; exact ⟨k9, h9⟩) (fun z hz => by
      rcases hpass z hz with h | ⟨hz0, nm, hl1, hn1⟩
      · exact Or.inl h
      · obtain ⟨c6, hc6, hcl6⟩ := Cond.classLink_spec hown hl1 e.platform hpl
        obtain ⟨a8, b8, h1, h2, h3⟩ := hn1
        cases Option.some.inj (h1.symm.trans hcl)
        cases Option.some.inj (h2.symm.trans hc6)
        exact Or.inr ⟨hz0, _, hcl6, h3⟩)
  obtain ⟨g₀, hfr⟩ := X'.frames_eq
  have hcell9 : ((T.setVm vm').setFrames (.throwing q :: below)).heap[q]? = some ce := by
    show T.heap[q]? = some ce
    rw [hT]; exact hcell
  have hend : Ended ((T.setVm vm').setFrames (.throwing q :: below)) below (.threw q) := State.frames_setFrames _ (State.cur_lt_of_frames hfr)
  refine ⟨(T.setVm vm').setFrames (.throwing q :: below), ?_, .threw q, X'.here.running, hend, Or.inr ⟨q, rfl, E, ce, locs, hx _ hT (X'.ends _).1.alike, hcell9, hv, hcl, (X'.ends _).1, (X'.ends _).2.mono hc hs, hf⟩⟩
  rw [X.pushThrowing_eq]
  exact st
/-- a thing of a world lies in the heap -/
theorem vx_lt {D : va_G} {cl : List vw_C} {ws : va_W} {H1 : Heap} (h : va_P D cl ws H1) {k : Nat} {q : Nat × va_E} (hk : ws[k]? = some q) : q.1 < H1.size := (h k q hk).lt
end VXS
/-! ===== END ===== -/
/-! ===== BEGIN methods with a table of their own: called by a name, returning or throwing ===== -/
section VXH
/-! vx_backW, vx_callVX, vx_callSX, vx_callVW, vx_runVW, vx_runVX, vx_runSX, vx_ofWH follow the same proofs as their sisters above (Free/Laws.lean, Shelf42/LK1.lean); vx_outP calls Shelf42/NT130.lean (outThrough). -/
section
variable {l : Launch} {R : Room} {p : Program} {e : Env} {below : List Frame} {s : State} {sargs : Array Value} {y : MethodName} {len W9 : Nat}
theorem vx_backW {ws : List Cond} {rm : Room} {Pc : Array Value → State → Prop} {Qc : Array Value → State → Outcome → State → Prop} {XC : String → State → State → Prop} {mc ms : Nat} {free : Addr → Prop} {bytes : ByteArray} {maxL : Nat} {ret : Option FieldType} {hh : List (Nat × Nat × Nat × Nat)}
    (hM : vx_Met l y ws rm Pc Qc XC mc ms free) (hblind : FrameBlind Pc) (hrc : rm.cells = mc) (hrs : rm.slots = ms)
    (hframes : rm.frames + 1 ≤ R.frames) (hlocals : W9 + (maxL + 11) + rm.locals ≤ R.locals)
    (hws : ∀ w ∈ ws, ∀ a' U, s.WarmedH U.vm → w.before a' U = true) (hcode : Cond.codeWith y bytes maxL ret hh ∈ ws) (hinit : ∀ a' U, s.WarmedH U.vm → (Cond.initialized y.cls).before a' U = true) :
    vx_Back l R p e below s sargs y len W9 (PreOf R mc ms Pc) (PostOf Qc mc ms free) (vx_Post XC mc ms free) := by
  intro m meth c A g ig mk a X hg hsize hdg hW hn hp
  have h1 : (headSpec ws rm).pre.before a A.U = true := atoms_intro fun w hw => hws w hw _ _ X.warmed
  have h2 : (Cond.codeWith y bytes maxL ret hh).before a A.U = true := hws _ hcode _ _ X.warmed
  have h3 : (Cond.initialized y.cls).before a A.U = true := hinit _ _ X.warmed
  have h4 : A.cells + (headSpec ws rm).room.cells ≤ R.cells := by rw [show (headSpec ws rm).room.cells = mc from hrc]; exact hp.1
  have h5 : A.slots + (headSpec ws rm).room.slots ≤ R.slots := by rw [show (headSpec ws rm).room.slots = ms from hrs]; exact hp.2.1
  have hPc : Pc a (A.U.calling g mk a) := hblind _ _ _ _ hp.2.2
  obtain ⟨U, Ls, c0, s0⟩ := A
  dsimp only [Pt.U, Pt.locs, Pt.cells, Pt.slots] at h1 h2 h3 h4 h5 X hn hPc ⊢
  obtain ⟨m9, methY, cY, hn9, hmY, hcY, -, hlY, -⟩ := Cond.codeWith_spec h2
  cases Option.some.inj (hn9.symm.trans hn)
  obtain ⟨kY, hkY, -⟩ := className_of_methodNamed hn
  have hinitY : kY.init = .initialized := Cond.initialized_spec (findClass_of_methodNamed hn) hkY h3
  have h : At U g.method c below := by rw [hg]; exact X.here
  have hlocals9 : W9 + (maxL + 11) + (headSpec ws rm).room.locals ≤ R.locals := hlocals
  have happ : (headSpec ws rm).appliesLoose y e.platform (U.calling g mk a) = true :=
    Spec.appliesLoose_calling (g := g) h hdg hn hkY hinitY
      (X.room_calling (g := g) (R' := (headSpec ws rm).room) hsize hmY hcY hframes (by rw [hlY]; omega) h4 h5) h1
  obtain ⟨mid, hmid⟩ := h.above
  have hfr : (U.setTop g).frames = (.java g :: mid) ++ below := by rw [State.frames_setTop' g h.top, hmid]; rfl
  obtain ⟨o, s₂, hsteps, -, hend, hq⟩ := Steps.callFree hM p X.admits X.cas X.clock (acts := []) hfr happ hPc trivial
  have hq' : vx_Q Qc XC mc ms free a (U.calling g mk a) o s₂ := hq
  rw [State.frames_setTop' g h.top] at hend
  obtain ⟨g₀, hg0⟩ := Option.isSome_iff_exists.mp h.top
  obtain ⟨r, hr⟩ := State.topJava?_eq_some.mp hg0
  have hr' : (({ U with heap := s₂.heap, slotsUsed := s₂.slotsUsed } : State).setVm s₂.vm).frames = .java g₀ :: r := hr
  rcases hq' with ⟨hqc, L, hfe, hL⟩ | ⟨q, rfl, E, ce, L, hx, hce, hcv, hcl, hW₂, hsm, hL⟩
  · obtain ⟨⟨v, rfl⟩, hW₂, e2, q2, q3, q4, q5, q6⟩ := id hfe
    have e3 : s₂ = ({ (U.calling g mk a).setFrames s₂.frames with heap := s₂.heap, slotsUsed := s₂.slotsUsed } : State).setVm s₂.vm := by
      have : s₂ = ({ s₂ with vm := (U.calling g mk a).vm } : State).setVm s₂.vm := rfl
      rw [e2] at this
      exact this
    obtain ⟨c₂, i₂, len₂, hc₂, hd₂, hf₂⟩ := hend
    have hW' : U.WarmedH s₂.vm := hW₂
    have hcc : c₂ = c := by
      have h1 : s₂.code? g.method = U.code? g.method := by
        rw [State.code?_eq, State.code?_eq, hW'.alike.method?]
      exact Option.some.inj (hc₂.symm.trans (h1.trans h.code))
    subst hcc
    have hlen : len₂ = len := by rw [hdg] at hd₂; cases hd₂; rfl
    subst hlen
    have hs₂ : s₂ = (({ U with heap := s₂.heap, slotsUsed := s₂.slotsUsed } : State).setVm s₂.vm).setTop { g with pc := g.pc + len₂, stack := v.toList ++ g.stack } := by
      refine e3.trans ?_
      rw [hf₂, State.calling_eq h.top, State.setFrames_setFrames, State.setTop_of_frames _ hr', hr]
      rfl
    have hsame : U.sameButNew ({ U with heap := s₂.heap, slotsUsed := s₂.slotsUsed } : State) L mc ms := by
      refine ⟨?_, q2, q3, q4, q5, q6⟩
      obtain ⟨t, ht, -⟩ := State.frames_cons hr
      show ({ U with heap := s₂.heap, slotsUsed := s₂.slotsUsed } : State) = { U.setFrames U.frames with heap := s₂.heap, slotsUsed := s₂.slotsUsed }
      rw [State.setFrames_self ht]
    subst hg
    refine Or.inl ⟨v, ⟨(({ U with heap := s₂.heap, slotsUsed := s₂.slotsUsed } : State).setVm s₂.vm), Ls ++ L, c0 + mc, s0 + ms⟩,
      ⟨X.admits, X.cas, X.clock, X.frames, X.room, X.hears, X.method, X.code, (X.here.setHeapUsed s₂.heap s₂.slotsUsed).setVm hW'.alike, X.tail, State.WarmedH.trans X.warmed hW', X.limits, X.bytes, X.same.trans (hsame.setVm s.vm)⟩,
      ⟨g, mk, s₂, L, rfl, rfl, hqc, rfl, hL, rfl, rfl⟩, ?_⟩
    show Steps p.tables e below _ ((({ U with heap := s₂.heap, slotsUsed := s₂.slotsUsed } : State).setVm s₂.vm).setTop { g with pc := g.pc + len₂, stack := v.toList ++ g.stack })
    rw [← hs₂]
    exact hsteps
  · obtain ⟨e2, q2, q3, q4, q5, q6⟩ := id hsm
    have e3 : s₂ = ({ (U.calling g mk a).setFrames s₂.frames with heap := s₂.heap, slotsUsed := s₂.slotsUsed } : State).setVm s₂.vm := by
      have : s₂ = ({ s₂ with vm := (U.calling g mk a).vm } : State).setVm s₂.vm := rfl
      rw [e2] at this
      exact this
    have hf₂ : s₂.frames = .throwing q :: .java g :: U.frames.tail := hend
    have hW' : U.WarmedH s₂.vm := hW₂
    have hs₂ : s₂ = ((({ U with heap := s₂.heap, slotsUsed := s₂.slotsUsed } : State).setVm s₂.vm).setTop g).pushFrame (.throwing q) := by
      refine e3.trans ?_
      rw [hf₂, State.calling_eq h.top, State.setFrames_setFrames, State.pushFrame, State.frames_setTop _ hr', State.setTop_of_frames _ hr', State.setFrames_setFrames, hr]
      rfl
    have hsame : U.sameButNew ({ U with heap := s₂.heap, slotsUsed := s₂.slotsUsed } : State) L mc ms := by
      refine ⟨?_, q2, q3, q4, q5, q6⟩
      obtain ⟨t, ht, -⟩ := State.frames_cons hr
      show ({ U with heap := s₂.heap, slotsUsed := s₂.slotsUsed } : State) = { U.setFrames U.frames with heap := s₂.heap, slotsUsed := s₂.slotsUsed }
      rw [State.setFrames_self ht]
    subst hg
    refine Or.inr ⟨q, ⟨(({ U with heap := s₂.heap, slotsUsed := s₂.slotsUsed } : State).setVm s₂.vm), Ls ++ L, c0 + mc, s0 + ms⟩,
      ⟨X.admits, X.cas, X.clock, X.frames, X.room, X.hears, X.method, X.code, (X.here.setHeapUsed s₂.heap s₂.slotsUsed).setVm hW'.alike, X.tail, State.WarmedH.trans X.warmed hW', X.limits, X.bytes, X.same.trans (hsame.setVm s.vm)⟩,
      ⟨g, mk, s₂, L, E, ce, rfl, rfl, hx, hce, hcv, hcl, rfl, hL, rfl, rfl⟩, ?_⟩
    show Steps p.tables e below _ (((({ U with heap := s₂.heap, slotsUsed := s₂.slotsUsed } : State).setVm s₂.vm).setTop g).pushFrame (.throwing q))
    rw [← hs₂]
    exact hsteps
end
variable {p : Program} {l : Launch} {e : Env} {R : Room} {s : State} {m : MethodId} {args : Array Value} {below : List Frame} {meth : Method} {c : Code} {T : State} {H : Heap} {locs : List Loc} {cells slots : Nat}
theorem vx_callVX (X : Stand p l e R s m args below meth c T locs cells slots) (hexec : p.tables.exec = Jvm.exec) {own C : String} {index : Nat} {y : MethodName} {bytes : ByteArray} {maxL : Nat} {ret : Option FieldType} {hh : List (Nat × Nat × Nat × Nat)}
    (hown : s.vm.findClass own = some m.cls) (hlink : (Cond.methodLink own index y).before args s = true) (hinst : (Cond.instanceMethod y).before args s = true) (hsel : (Cond.selects C y y).before args s = true)
    (hcode : (Cond.codeWith y bytes maxL ret hh).before args s = true) (hy : y.cls ≠ "java/lang/invoke/MethodHandle" ∧ y.cls ≠ "java/lang/invoke/VarHandle")
    {W9 : Nat} {Pre : Pt → Array Value → Prop} {Post : Pt → Array Value → Option Value → Pt → Prop} {PostX : Pt → Array Value → Addr → Pt → Prop} (hK : vx_Back l R p e below s args y 3 W9 Pre Post PostX)
    {b : Addr} {cellB : Cell} (hcell : T.heap[b]? = some cellB) (hobj : cellB.vm.isStatics = false) (hcls : s.vm.findClass C = some cellB.cls)
    {g : JFrame} (hg : g.method = m) (hsize : g.locals.size = c.maxLocals) {argsL rest : List Value} (hlen : ∀ sig, parseMethodDescriptor y.desc = some sig → argsL.length = sig.parameters.length)
    (hstack : g.stack = argsL.reverse ++ .ref b :: rest) (hW : 2 * g.monitorRoom + (rest.map fun v => v.category).sum ≤ W9) (hdg : decode c.code g.pc = .ok (.invokevirtual index, 3))
    (hpre : ∀ vm₁, s.WarmedH vm₁ → Pre ⟨T.setVm vm₁, locs, cells, slots⟩ (Value.ref b :: argsL).toArray) :
    (∃ (v : Option Value) (vm₁ : Vm) (B : Pt), s.WarmedH vm₁ ∧ Stand p l e R s m args below meth c B.U B.locs B.cells B.slots ∧ Post ⟨T.setVm vm₁, locs, cells, slots⟩ (Value.ref b :: argsL).toArray v B ∧
      ∀ target, Steps p.tables e below (B.U.setTop { g with pc := g.pc + 3, stack := v.toList ++ rest }) target → Steps p.tables e below (T.setTop g) target) ∨
    (∃ (q : Addr) (vm₁ : Vm) (B : Pt), s.WarmedH vm₁ ∧ Stand p l e R s m args below meth c B.U B.locs B.cells B.slots ∧ PostX ⟨T.setVm vm₁, locs, cells, slots⟩ (Value.ref b :: argsL).toArray q B ∧
      Steps p.tables e below (T.setTop g) ((B.U.setTop { g with stack := rest }).pushFrame (.throwing q))) := by
  obtain ⟨mk, methM, hnamed, hmethM, hstM, habM⟩ := Cond.instanceMethod_spec hinst
  obtain ⟨m8, methM', cM, hn8, hmethM', -, -, -, -, -, -, hsigM⟩ := Cond.codeWith_spec hcode
  cases Option.some.inj (hn8.symm.trans hnamed)
  cases hmethM.symm.trans hmethM'
  obtain ⟨c2, r2, m2, q1, q2, q3, q4, kP, hkP, hkPi⟩ := Cond.selects_spec hsel
  cases hcls.symm.trans q1
  cases (State.methodFound?_of_named hnamed hy).symm.trans q2
  cases hnamed.symm.trans q3
  have hselP : selectMethod e.platform s.vm cellB.cls mk = .method mk := by rw [Launch.admits_selectMethod X.admits]; exact q4
  obtain ⟨vm₁, X₁, hstep₁⟩ := X.invokevirtual hexec hown hlink hnamed hmethM hstM hkP hkPi hy (a := b) (cell := cellB) hcell
    (fun z h => by rw [h] at hobj; cases hobj) hselP hmethM habM hkP hkPi (g := g) hg (argsL := argsL) (rest := rest) (hlen _ hsigM) hstack hdg
  rcases hK m meth c ⟨T.setVm vm₁, locs, cells, slots⟩ { g with stack := rest } (.invokevirtual index) mk (Value.ref b :: argsL).toArray X₁ hg hsize hdg hW (X₁.named hnamed) (hpre vm₁ X₁.warmed) with ⟨v, B, X', hpost, hsteps⟩ | ⟨q, B, X', hpost, hsteps⟩
  · exact Or.inl ⟨v, vm₁, B, X₁.warmed, X', hpost, fun target h => hstep₁ _ fun acts => by rw [doInvoke_state]; exact hsteps.trans h⟩
  · exact Or.inr ⟨q, vm₁, B, X₁.warmed, X', hpost, hstep₁ _ fun acts => by rw [doInvoke_state]; exact hsteps⟩
theorem vx_callSX (X : Stand p l e R s m args below meth c T locs cells slots) (hexec : p.tables.exec = Jvm.exec) {own : String} {index : Nat} {y : MethodName} {bytes : ByteArray} {maxL : Nat} {ret : Option FieldType} {hh : List (Nat × Nat × Nat × Nat)}
    (hown : s.vm.findClass own = some m.cls) (hlink : (Cond.methodLink own index y).before args s = true) (hstat : (Cond.static y).before args s = true) (hinit : (Cond.initialized y.cls).before args s = true)
    (hcode : (Cond.codeWith y bytes maxL ret hh).before args s = true) (hy : y.cls ≠ "java/lang/invoke/MethodHandle" ∧ y.cls ≠ "java/lang/invoke/VarHandle")
    {W9 : Nat} {Pre : Pt → Array Value → Prop} {Post : Pt → Array Value → Option Value → Pt → Prop} {PostX : Pt → Array Value → Addr → Pt → Prop} (hK : vx_Back l R p e below s args y 3 W9 Pre Post PostX)
    {g : JFrame} (hg : g.method = m) (hsize : g.locals.size = c.maxLocals) {argsL rest : List Value} (hlen : ∀ sig, parseMethodDescriptor y.desc = some sig → argsL.length = sig.parameters.length)
    (hstack : g.stack = argsL.reverse ++ rest) (hW : 2 * g.monitorRoom + (rest.map fun v => v.category).sum ≤ W9) (hdg : decode c.code g.pc = .ok (.invokestatic index, 3))
    (hpre : ∀ vm₁, s.WarmedH vm₁ → Pre ⟨T.setVm vm₁, locs, cells, slots⟩ argsL.toArray) :
    (∃ (v : Option Value) (vm₁ : Vm) (B : Pt), s.WarmedH vm₁ ∧ Stand p l e R s m args below meth c B.U B.locs B.cells B.slots ∧ Post ⟨T.setVm vm₁, locs, cells, slots⟩ argsL.toArray v B ∧
      ∀ target, Steps p.tables e below (B.U.setTop { g with pc := g.pc + 3, stack := v.toList ++ rest }) target → Steps p.tables e below (T.setTop g) target) ∨
    (∃ (q : Addr) (vm₁ : Vm) (B : Pt), s.WarmedH vm₁ ∧ Stand p l e R s m args below meth c B.U B.locs B.cells B.slots ∧ PostX ⟨T.setVm vm₁, locs, cells, slots⟩ argsL.toArray q B ∧
      Steps p.tables e below (T.setTop g) ((B.U.setTop { g with stack := rest }).pushFrame (.throwing q))) := by
  obtain ⟨mk, methM, cM, hnamed, hmethM, -, -, -, -, -, -, hsigM⟩ := Cond.codeWith_spec hcode
  have hstatic : methM.isStatic = true := Cond.static_spec hnamed hmethM hstat
  obtain ⟨kP, hkP, -⟩ := className_of_methodNamed hnamed
  have hinitP : kP.init = .initialized := Cond.initialized_spec (findClass_of_methodNamed hnamed) hkP hinit
  obtain ⟨vm₁, X₁, hstep₁⟩ := X.invokestatic hexec hown hlink hnamed hmethM hstatic hkP hinitP hy (g := g) hg (argsL := argsL) (rest := rest) (hlen _ hsigM) hstack hdg
  rcases hK m meth c ⟨T.setVm vm₁, locs, cells, slots⟩ { g with stack := rest } (.invokestatic index) mk argsL.toArray X₁ hg hsize hdg hW (X₁.named hnamed) (hpre vm₁ X₁.warmed) with ⟨v, B, X', hpost, hsteps⟩ | ⟨q, B, X', hpost, hsteps⟩
  · exact Or.inl ⟨v, vm₁, B, X₁.warmed, X', hpost, fun target h => hstep₁ _ fun acts => by rw [doInvoke_state]; exact hsteps.trans h⟩
  · exact Or.inr ⟨q, vm₁, B, X₁.warmed, X', hpost, hstep₁ _ fun acts => by rw [doInvoke_state]; exact hsteps⟩
theorem vx_callVW (X : Stand p l e R s m args below meth c T locs cells slots) (hexec : p.tables.exec = Jvm.exec) {own C : String} {index : Nat} {y : MethodName} {bytes : ByteArray} {maxL : Nat} {ret : Option FieldType} {hh : List (Nat × Nat × Nat × Nat)}
    (hown : s.vm.findClass own = some m.cls) (hlink : (Cond.methodLink own index y).before args s = true) (hinst : (Cond.instanceMethod y).before args s = true) (hsel : (Cond.selects C y y).before args s = true)
    (hcode : (Cond.codeWith y bytes maxL ret hh).before args s = true) (hy : y.cls ≠ "java/lang/invoke/MethodHandle" ∧ y.cls ≠ "java/lang/invoke/VarHandle")
    {W9 : Nat} {Pre : Pt → Array Value → Prop} {Post : Pt → Array Value → Option Value → Pt → Prop} (hK : Back l R p e below s args y 3 W9 Pre Post)
    {b : Addr} {cellB : Cell} (hcell : T.heap[b]? = some cellB) (hobj : cellB.vm.isStatics = false) (hcls : s.vm.findClass C = some cellB.cls)
    {g : JFrame} (hg : g.method = m) (hsize : g.locals.size = c.maxLocals) {argsL rest : List Value} (hlen : ∀ sig, parseMethodDescriptor y.desc = some sig → argsL.length = sig.parameters.length)
    (hstack : g.stack = argsL.reverse ++ .ref b :: rest) (hW : 2 * g.monitorRoom + (rest.map fun v => v.category).sum ≤ W9) (hdg : decode c.code g.pc = .ok (.invokevirtual index, 3))
    (hpre : ∀ vm₁, s.WarmedH vm₁ → Pre ⟨T.setVm vm₁, locs, cells, slots⟩ (Value.ref b :: argsL).toArray) :
    ∃ (v : Option Value) (vm₁ : Vm) (B : Pt), s.WarmedH vm₁ ∧ Stand p l e R s m args below meth c B.U B.locs B.cells B.slots ∧ Post ⟨T.setVm vm₁, locs, cells, slots⟩ (Value.ref b :: argsL).toArray v B ∧
      ∀ target, Steps p.tables e below (B.U.setTop { g with pc := g.pc + 3, stack := v.toList ++ rest }) target → Steps p.tables e below (T.setTop g) target := by
  obtain ⟨mk, methM, hnamed, hmethM, hstM, habM⟩ := Cond.instanceMethod_spec hinst
  obtain ⟨m8, methM', cM, hn8, hmethM', -, -, -, -, -, -, hsigM⟩ := Cond.codeWith_spec hcode
  cases Option.some.inj (hn8.symm.trans hnamed)
  cases hmethM.symm.trans hmethM'
  obtain ⟨c2, r2, m2, q1, q2, q3, q4, kP, hkP, hkPi⟩ := Cond.selects_spec hsel
  cases hcls.symm.trans q1
  cases (State.methodFound?_of_named hnamed hy).symm.trans q2
  cases hnamed.symm.trans q3
  have hselP : selectMethod e.platform s.vm cellB.cls mk = .method mk := by rw [Launch.admits_selectMethod X.admits]; exact q4
  obtain ⟨vm₁, X₁, hstep₁⟩ := X.invokevirtual hexec hown hlink hnamed hmethM hstM hkP hkPi hy (a := b) (cell := cellB) hcell
    (fun z h => by rw [h] at hobj; cases hobj) hselP hmethM habM hkP hkPi (g := g) hg (argsL := argsL) (rest := rest) (hlen _ hsigM) hstack hdg
  obtain ⟨v, B, X', hpost, hsteps⟩ := hK m meth c ⟨T.setVm vm₁, locs, cells, slots⟩ { g with stack := rest } (.invokevirtual index) mk (Value.ref b :: argsL).toArray X₁ hg hsize hdg hW (X₁.named hnamed) (hpre vm₁ X₁.warmed)
  exact ⟨v, vm₁, B, X₁.warmed, X', hpost, fun target h => hstep₁ _ fun acts => by rw [doInvoke_state]; exact hsteps.trans h⟩
abbrev vx_CVW (R : Room) (s : State) (args : Array Value) (own C : String) (index : Nat) (y : MethodName) (bytes : ByteArray) (maxL : Nat) (ret : Option FieldType) (hh : List (Nat × Nat × Nat × Nat)) (ws : List Cond) (rm : Room) (mc ms n : Nat) : Prop :=
  (rm.cells = mc ∧ rm.slots = ms ∧ rm.frames + 1 ≤ R.frames ∧ 8 + (maxL + 11) + rm.locals ≤ R.locals ∧ (∀ w ∈ ws, ∀ (a' : Array Value) (U : State), s.WarmedH U.vm → w.before a' U = true) ∧ Cond.codeWith y bytes maxL ret hh ∈ ws) ∧
  (Cond.codeWith y bytes maxL ret hh).before args s = true ∧ (Cond.initialized y.cls).before args s = true ∧ (y.cls ≠ "java/lang/invoke/MethodHandle" ∧ y.cls ≠ "java/lang/invoke/VarHandle") ∧
  (∀ sig, parseMethodDescriptor y.desc = some sig → n = sig.parameters.length) ∧ (Cond.methodLink own index y).before args s = true ∧ (Cond.instanceMethod y).before args s = true ∧ (Cond.selects C y y).before args s = true
theorem vx_cwVW {own C : String} {index maxL mc ms : Nat} {y : MethodName} {bytes : ByteArray} {ret : Option FieldType} {hh : List (Nat × Nat × Nat × Nat)} {Ts ws ws' : List Cond} {rm : Room} (n : Nat) (ht : ∀ w ∈ Ts, w.before args s = true) (hT : GoodIn Ts (wsV own index C y ws)) (hw : ws = Cond.codeWith y bytes maxL ret hh :: ws') (hrc : rm.cells = mc) (hrs : rm.slots = ms)
    (hd : y.cls = C ∧ y.cls ≠ "java/lang/invoke/MethodHandle" ∧ y.cls ≠ "java/lang/invoke/VarHandle" ∧ (parseMethodDescriptor y.desc).map (fun d => d.parameters.length) = some n) (hR : rm.frames + 1 ≤ R.frames ∧ 8 + (maxL + 11) + rm.locals ≤ R.locals) :
    vx_CVW R s args own C index y bytes maxL ret hh ws rm mc ms n := by
  obtain ⟨hC, hd⟩ := hd
  subst hC
  have ok : ∀ w ∈ wsV own index y.cls y ws, w.before args s = true := fun w h => ht w (hT w h).1
  have hG : GoodIn Ts ws := fun w h => hT w (by unfold wsV; exact List.mem_append_right _ h)
  have hc : Cond.codeWith y bytes maxL ret hh ∈ ws := by rw [hw]; exact List.mem_cons_self
  refine ⟨⟨hrc, hrs, hR.1, hR.2, pay_in ht hG, hc⟩, ht _ (hG _ hc).1, ok _ (by simp [wsV]), ⟨hd.1, hd.2.1⟩, fun sig h => ?_, ok _ (by simp [wsV]), ok _ (by simp [wsV]), ok _ (by simp [wsV])⟩
  have h2 := hd.2.2
  rw [h] at h2
  exact (Option.some.inj h2).symm
theorem vx_runVW {y : MethodName} {bytes cc : ByteArray} {maxL nL mc ms n index : Nat} {ret : Option FieldType} {hh : List (Nat × Nat × Nat × Nat)} {ws : List Cond} {rm : Room} {Pc : Array Value → State → Prop} {Qc : Array Value → State → Outcome → State → Prop} {free : Addr → Prop} {Ts : List Cond} {own C : String} {b : Addr} {As rest : List Value} {g : JFrame}
    (S : CallFix p m c cc nL s args Ts own) (hM : Met l y ws rm Pc Qc mc ms free) (cw : vx_CVW R s args own C index y bytes maxL ret hh ws rm mc ms n) (hp : PreV s H C b Pc As)
    (hg : g.method = m) (hn : As.length = n) (hsize : g.locals.size = nL) (hstack : g.stack = As.reverse ++ .ref b :: rest) (hW : 2 * g.monitorRoom + (rest.map fun v => v.category).sum ≤ 8) (hdg : decode cc g.pc = .ok (.invokevirtual index, 3)) (hf : cells + mc ≤ R.cells ∧ slots + ms ≤ R.slots) :
    va_Run p l e R s m args below meth c H locs cells slots mc ms g rest (Qc (Value.ref b :: As).toArray) free := by
  obtain ⟨⟨hrc, hrs, hfr, hlo, hws, hcw⟩, hcode, hini, hy, hlen, hl, hin, hse⟩ := cw
  have hK : Back l R p e below s args y 3 8 (PreOf R mc ms Pc) (PostOf Qc mc ms free) := va_backW (hh := hh) (bytes := bytes) (maxL := maxL) (ret := ret) hM hp.1 hrc hrs hfr hlo hws hcw (fun a' U hW => word_at hW (Or.inl (by first | rfl | simp [Cond.onTables, Cond.keeps, Cond.steady])) hini)
  obtain ⟨hx, hb, hml, ho, -⟩ := S
  obtain ⟨-, ⟨cellB, hcB, hoB, hclB⟩, hPc⟩ := hp
  intro T hT X
  obtain ⟨v, vm₁, ⟨U', l2, c2, s2⟩, hW₁, X', ⟨g', mk, t, L, e1, e2, hq, h1, hL, h2, h3⟩, st⟩ := vx_callVW X hx (C := C) (hh := hh) (bytes := bytes) (maxL := maxL) (ret := ret) ho hl hin hse hcode hy hK (by rw [hT]; exact hcB) hoB hclB hg (hsize.trans hml.symm) (argsL := As) (rest := rest) (fun sig h => hn.trans (hlen sig h)) hstack hW (by rw [hb]; exact hdg)
    (fun vm₁ hW₁ => ⟨hf.1, hf.2, hPc (T.setVm vm₁) hT hW₁⟩)
  dsimp only [Pt.U, Pt.locs, Pt.cells, Pt.slots] at X' e1 e2 h1 h2 h3 st
  subst h1; subst h2; subst h3
  exact ⟨v, (T.setVm vm₁).calling g' mk (Value.ref b :: As).toArray, t, U', L, hT, X', hL, e1, e2, hq, st⟩
section
variable {y : MethodName} {bytes cc : ByteArray} {maxL nL mc ms n index : Nat} {ret : Option FieldType} {ws : List Cond} {rm : Room} {Pc : Array Value → State → Prop} {Qc : Array Value → State → Outcome → State → Prop} {XC : String → State → State → Prop} {free : Addr → Prop} {Ts : List Cond} {own C : String} {b : Addr} {As rest : List Value} {g : JFrame}
theorem vx_runVX {hh : List (Nat × Nat × Nat × Nat)} (S : CallFix p m c cc nL s args Ts own) (hM : vx_Met l y ws rm Pc Qc XC mc ms free) (cw : vx_CVW R s args own C index y bytes maxL ret hh ws rm mc ms n) (hp : PreV s H C b Pc As)
    (hg : g.method = m) (hn : As.length = n) (hsize : g.locals.size = nL) (hstack : g.stack = As.reverse ++ .ref b :: rest) (hW : 2 * g.monitorRoom + (rest.map fun v => v.category).sum ≤ 8) (hdg : decode cc g.pc = .ok (.invokevirtual index, 3)) (hf : cells + mc ≤ R.cells ∧ slots + ms ≤ R.slots) :
    vx_Run p l e R s m args below meth c H locs cells slots mc ms g rest (Qc (Value.ref b :: As).toArray) XC free := by
  obtain ⟨⟨hrc, hrs, hfr, hlo, hws, hcw⟩, hcode, hini, hy, hlen, hl, hin, hse⟩ := cw
  have hK : vx_Back l R p e below s args y 3 8 (PreOf R mc ms Pc) (PostOf Qc mc ms free) (vx_Post XC mc ms free) := vx_backW (hh := hh) (bytes := bytes) (maxL := maxL) (ret := ret) hM hp.1 hrc hrs hfr hlo hws hcw (fun a' U hW => word_at hW (Or.inl (by first | rfl | simp [Cond.onTables, Cond.keeps, Cond.steady])) hini)
  obtain ⟨hx, hb, hml, ho, -⟩ := S
  obtain ⟨-, ⟨cellB, hcB, hoB, hclB⟩, hPc⟩ := hp
  intro T hT X
  rcases vx_callVX X hx (C := C) (hh := hh) (bytes := bytes) (maxL := maxL) (ret := ret) ho hl hin hse hcode hy hK (by rw [hT]; exact hcB) hoB hclB hg (hsize.trans hml.symm) (argsL := As) (rest := rest) (fun sig h => hn.trans (hlen sig h)) hstack hW (by rw [hb]; exact hdg)
    (fun vm₁ hW₁ => ⟨hf.1, hf.2, hPc (T.setVm vm₁) hT hW₁⟩) with ⟨v, vm₁, ⟨U', l2, c2, s2⟩, hW₁, X', ⟨g', mk, t, L, e1, e2, hq, h1, hL, h2, h3⟩, st⟩ | ⟨q, vm₁, ⟨U', l2, c2, s2⟩, hW₁, X', ⟨g', mk, t, L, E, ce, e1, e2, hq, hce, hcv, hcl, h1, hL, h2, h3⟩, st⟩
  · dsimp only [Pt.U, Pt.locs, Pt.cells, Pt.slots] at X' e1 e2 h1 h2 h3 st
    subst h1; subst h2; subst h3
    exact Or.inl ⟨v, (T.setVm vm₁).calling g' mk (Value.ref b :: As).toArray, t, U', L, hT, X', hL, e1, e2, hq, st⟩
  · dsimp only [Pt.U, Pt.locs, Pt.cells, Pt.slots] at X' e1 e2 h1 h2 h3 st hcl
    subst h1; subst h2; subst h3
    exact Or.inr ⟨q, (T.setVm vm₁).calling g' mk (Value.ref b :: As).toArray, t, U', L, E, ce, hT, X', hL, e1, e2, hq, hce, hcv, vx_cls hW₁ hcl, st⟩
theorem vx_runSX {hh : List (Nat × Nat × Nat × Nat)} (S : CallFix p m c cc nL s args Ts own) (hM : vx_Met l y ws rm Pc Qc XC mc ms free) (cw : vx_CSW R s args own index y bytes maxL ret hh ws rm mc ms n) (hp : PreS s H Pc As)
    (hg : g.method = m) (hn : As.length = n) (hsize : g.locals.size = nL) (hstack : g.stack = As.reverse ++ rest) (hW : 2 * g.monitorRoom + (rest.map fun v => v.category).sum ≤ 8) (hdg : decode cc g.pc = .ok (.invokestatic index, 3)) (hf : cells + mc ≤ R.cells ∧ slots + ms ≤ R.slots) :
    vx_Run p l e R s m args below meth c H locs cells slots mc ms g rest (Qc As.toArray) XC free := by
  obtain ⟨⟨hrc, hrs, hfr, hlo, hws, hcw⟩, hcode, hini, hy, hlen, hl, hstt⟩ := cw
  have hK : vx_Back l R p e below s args y 3 8 (PreOf R mc ms Pc) (PostOf Qc mc ms free) (vx_Post XC mc ms free) := vx_backW (hh := hh) (bytes := bytes) (maxL := maxL) (ret := ret) hM hp.1 hrc hrs hfr hlo hws hcw (fun a' U hW => word_at hW (Or.inl (by first | rfl | simp [Cond.onTables, Cond.keeps, Cond.steady])) hini)
  obtain ⟨hx, hb, hml, ho, -⟩ := S
  intro T hT X
  rcases vx_callSX X hx (hh := hh) (bytes := bytes) (maxL := maxL) (ret := ret) ho hl hstt hini hcode hy hK hg (hsize.trans hml.symm) (argsL := As) (rest := rest) (fun sig h => hn.trans (hlen sig h)) hstack hW (by rw [hb]; exact hdg)
    (fun vm₁ hW₁ => ⟨hf.1, hf.2, hp.2 (T.setVm vm₁) hT hW₁⟩) with ⟨v, vm₁, ⟨U', l2, c2, s2⟩, hW₁, X', ⟨g', mk, t, L, e1, e2, hq, h1, hL, h2, h3⟩, st⟩ | ⟨q, vm₁, ⟨U', l2, c2, s2⟩, hW₁, X', ⟨g', mk, t, L, E, ce, e1, e2, hq, hce, hcv, hcl, h1, hL, h2, h3⟩, st⟩
  · dsimp only [Pt.U, Pt.locs, Pt.cells, Pt.slots] at X' e1 e2 h1 h2 h3 st
    subst h1; subst h2; subst h3
    exact Or.inl ⟨v, (T.setVm vm₁).calling g' mk As.toArray, t, U', L, hT, X', hL, e1, e2, hq, st⟩
  · dsimp only [Pt.U, Pt.locs, Pt.cells, Pt.slots] at X' e1 e2 h1 h2 h3 st hcl
    subst h1; subst h2; subst h3
    exact Or.inr ⟨q, (T.setVm vm₁).calling g' mk As.toArray, t, U', L, E, ce, hT, X', hL, e1, e2, hq, hce, hcv, vx_cls hW₁ hcl, st⟩
end
end VXH
theorem vx_ofWH {l : Launch} {y : MethodName} {ws ws' : List Cond} {rm : Room} {Pc : Array Value → State → Prop} {Qc : Array Value → State → Outcome → State → Prop} {XC : String → State → State → Prop} {mc ms : Nat} {free : Addr → Prop} {cc : ByteArray} {maxL : Nat} {ret : Option FieldType} {hh : List (Nat × Nat × Nat × Nat)}
    (hy : plainName y.cls = true) (hw : ws = Cond.codeWith y cc maxL ret hh :: ws')
    (body : ∀ p e s m args below meth c s₁, BodyLoose p l y (headSpec ws rm) cc maxL ret e s m args below meth c s₁ → c.maxLocals = maxL → Pc args s →
      W p l e (headSpec ws rm).room s m args below meth c s.heap [] 0 0 (vx_MQ below Qc XC args s mc ms free) (entryFrame m args maxL)) : vx_Met l y ws rm Pc Qc XC mc ms free := by
  refine MetFree.of_bodyS (code := cc) (maxLocals := maxL) (ret := ret) hy ?_ ?_
  · intro args s m h hn
    obtain ⟨m9, meth, c, hn9, h1, h2, h3, h4, -, h5, h6, -⟩ := Cond.codeWith_spec (atoms_spec (ws := ws) h _ (by rw [hw]; exact List.mem_cons_self))
    cases hn.symm.trans hn9
    exact ⟨meth, c, h1, h2, h3, h4, h5, h6⟩
  · intro p e s m args below meth c s₁ B hml hP _
    have hh0 : s₁.heap = s.heap := by rw [B.state]; rfl
    obtain ⟨t, a1, o, b1, b2, b3⟩ := body p e s m args below meth c s₁ B hml hP s₁ hh0 (Stand.of_body B)
    exact ⟨t, o, a1, b1, b2, b3⟩
/-! ===== END ===== -/

/-! ===== BEGIN printed: names, fields, word lists, decode rows ===== -/
end
section
def RX0 : String := "CoracleRace$Boat"
def TX0 : u_T := fun k => match k with
  | 0 => ("CoracleRace$Boat", "strokes", "[I", true)
  | 1 => ("CoracleRace$Boat", "length", "I", false)
  | 2 => ("CoracleRace$Boat", "strength", "I", false)
  | 3 => ("CoracleRace$Boat", "place", "I", false)
  | 4 => ("CoracleRace$Boat", "lane", "I", false)
  | 5 => ("CoracleRace$Boat", "heading", "I", false)
  | 6 => ("CoracleRace$Boat", "soaked", "I", false)
  | 7 => ("CoracleRace$Boat", "fouls", "I", false)
  | 8 => ("CoracleRace$Boat", "in", "Z", false)
  | 9 => ("CoracleRace$Boat", "tickIn", "I", false)
  | 10 => ("CoracleRace$Boat", "spins", "I", false)
  | _ => ("CoracleRace$Boat", "stops", "I", false)
def tyX0 : Nat → FieldType := fun k => match k with
  | 0 => .array .int
  | 1 => .int
  | 2 => .int
  | 3 => .int
  | 4 => .int
  | 5 => .int
  | 6 => .int
  | 7 => .int
  | 8 => .boolean
  | 9 => .int
  | 10 => .int
  | _ => .int
abbrev wsX00 : List Cond := u_ws RX0 TX0 12
theorem nmX0 : ∀ a, a < 12 → ∀ b, b < 12 → a ≠ b → (TX0 a).2.1 ≠ (TX0 b).2.1 := by decide +kernel
theorem tyX0_ok : ∀ k, k < 12 → parseFieldDescriptor (TX0 k).2.2.1 = some (tyX0 k) := by decide +kernel
abbrev cX0_init : ByteArray := prog_2_method_1_code
def yX0_init : MethodName := ⟨RX0, "<init>", "()V"⟩
abbrev cX0_start : ByteArray := prog_2_method_2_code
def yX0_start : MethodName := ⟨RX0, "start", "(II)V"⟩
abbrev cX0_copyFrom : ByteArray := prog_2_method_3_code
def yX0_copyFrom : MethodName := ⟨RX0, "copyFrom", "(LCoracleRace$Boat;)V"⟩
abbrev cX0_isIn : ByteArray := prog_2_method_4_code
def yX0_isIn : MethodName := ⟨RX0, "isIn", "()Z"⟩
abbrev cX0_time : ByteArray := prog_2_method_5_code
def yX0_time : MethodName := ⟨RX0, "time", "()I"⟩
abbrev cX0_fact : ByteArray := prog_2_method_6_code
def yX0_fact : MethodName := ⟨RX0, "fact", "(I)I"⟩
abbrev cX0_isAheadOf : ByteArray := prog_2_method_7_code
def yX0_isAheadOf : MethodName := ⟨RX0, "isAheadOf", "(LCoracleRace$Boat;)Z"⟩
abbrev cX0_takePattern : ByteArray := prog_2_method_8_code
def yX0_takePattern : MethodName := ⟨RX0, "takePattern", "(II)V"⟩
abbrev cX0_dryOut : ByteArray := prog_2_method_9_code
def yX0_dryOut : MethodName := ⟨RX0, "dryOut", "()I"⟩
abbrev cX0_letTickGoBy : ByteArray := prog_2_method_10_code
def yX0_letTickGoBy : MethodName := ⟨RX0, "letTickGoBy", "(LCoracleRace$River;I)V"⟩
abbrev cX0_strokeIn : ByteArray := prog_2_method_11_code
def yX0_strokeIn : MethodName := ⟨RX0, "strokeIn", "(I)I"⟩
abbrev cX0_forceOf : ByteArray := prog_2_method_12_code
def yX0_forceOf : MethodName := ⟨RX0, "forceOf", "(I)I"⟩
abbrev cX0_pushOf : ByteArray := prog_2_method_13_code
def yX0_pushOf : MethodName := ⟨RX0, "pushOf", "(I)I"⟩
abbrev cX0_drift : ByteArray := prog_2_method_14_code
def yX0_drift : MethodName := ⟨RX0, "drift", "()V"⟩
abbrev cX0_advance : ByteArray := prog_2_method_15_code
def yX0_advance : MethodName := ⟨RX0, "advance", "(LCoracleRace$River;I)V"⟩
abbrev cX0_soak : ByteArray := prog_2_method_16_code
def yX0_soak : MethodName := ⟨RX0, "soak", "(I)V"⟩
def RX1 : String := "CoracleRace$Fleet"
def TX1 : u_T := fun k => match k with
  | 0 => ("CoracleRace$Fleet", "boats", "[LCoracleRace$Boat;", true)
  | 1 => ("CoracleRace$Fleet", "size", "I", false)
  | _ => ("CoracleRace$Fleet", "tick", "I", false)
def tyX1 : Nat → FieldType := fun k => match k with
  | 0 => .array (.object "CoracleRace$Boat")
  | 1 => .int
  | _ => .int
abbrev wsX10 : List Cond := u_ws RX1 TX1 3
theorem nmX1 : ∀ a, a < 3 → ∀ b, b < 3 → a ≠ b → (TX1 a).2.1 ≠ (TX1 b).2.1 := by decide +kernel
theorem tyX1_ok : ∀ k, k < 3 → parseFieldDescriptor (TX1 k).2.2.1 = some (tyX1 k) := by decide +kernel
abbrev cX1_init : ByteArray := prog_3_method_1_code
def yX1_init : MethodName := ⟨RX1, "<init>", "()V"⟩
abbrev cX1_has : ByteArray := prog_3_method_2_code
def yX1_has : MethodName := ⟨RX1, "has", "(I)Z"⟩
abbrev cX1_add : ByteArray := prog_3_method_3_code
def yX1_add : MethodName := ⟨RX1, "add", "(II)I"⟩
abbrev cX1_copyFrom : ByteArray := prog_3_method_4_code
def yX1_copyFrom : MethodName := ⟨RX1, "copyFrom", "(LCoracleRace$Fleet;)V"⟩
abbrev cX1_letTicksGoBy : ByteArray := prog_3_method_5_code
def yX1_letTicksGoBy : MethodName := ⟨RX1, "letTicksGoBy", "(LCoracleRace$River;I)V"⟩
abbrev cX1_boatsIn : ByteArray := prog_3_method_6_code
def yX1_boatsIn : MethodName := ⟨RX1, "boatsIn", "()I"⟩
abbrev cX1_foulsAdded : ByteArray := prog_3_method_7_code
def yX1_foulsAdded : MethodName := ⟨RX1, "foulsAdded", "()I"⟩
abbrev cX1_placesAdded : ByteArray := prog_3_method_8_code
def yX1_placesAdded : MethodName := ⟨RX1, "placesAdded", "()I"⟩
abbrev cX1_leader : ByteArray := prog_3_method_9_code
def yX1_leader : MethodName := ⟨RX1, "leader", "()I"⟩
abbrev cX1_winner : ByteArray := prog_3_method_10_code
def yX1_winner : MethodName := ⟨RX1, "winner", "()I"⟩
abbrev cX1_rankOf : ByteArray := prog_3_method_11_code
def yX1_rankOf : MethodName := ⟨RX1, "rankOf", "(LCoracleRace$Boat;)I"⟩
def RX2 : String := "CoracleRace$River"
def TX2 : u_T := fun k => match k with
  | 0 => ("CoracleRace$River", "water", "[I", true)
  | 1 => ("CoracleRace$River", "places", "[I", true)
  | 2 => ("CoracleRace$River", "gaps", "[I", true)
  | _ => ("CoracleRace$River", "weirs", "I", false)
def tyX2 : Nat → FieldType := fun k => match k with
  | 0 => .array .int
  | 1 => .array .int
  | 2 => .array .int
  | _ => .int
abbrev wsX20 : List Cond := u_ws RX2 TX2 4
theorem nmX2 : ∀ a, a < 4 → ∀ b, b < 4 → a ≠ b → (TX2 a).2.1 ≠ (TX2 b).2.1 := by decide +kernel
theorem tyX2_ok : ∀ k, k < 4 → parseFieldDescriptor (TX2 k).2.2.1 = some (tyX2 k) := by decide +kernel
abbrev cX2_init : ByteArray := prog_4_method_1_code
def yX2_init : MethodName := ⟨RX2, "<init>", "()V"⟩
abbrev cX2_isLane : ByteArray := prog_4_method_2_code
def yX2_isLane : MethodName := ⟨RX2, "isLane", "(I)Z"⟩
abbrev cX2_hasWeirAt : ByteArray := prog_4_method_3_code
def yX2_hasWeirAt : MethodName := ⟨RX2, "hasWeirAt", "(I)Z"⟩
abbrev cX2_addWeir : ByteArray := prog_4_method_4_code
def yX2_addWeir : MethodName := ⟨RX2, "addWeir", "(II)V"⟩
abbrev cX2_firstStop : ByteArray := prog_4_method_6_code
def yX2_firstStop : MethodName := ⟨RX2, "firstStop", "(III)I"⟩
def RX3 : String := "CoracleRace"
def TX3 : u_T := fun k => match k with
  | 0 => ("CoracleRace", "river", "LCoracleRace$River;", true)
  | 1 => ("CoracleRace", "fleet", "LCoracleRace$Fleet;", true)
  | _ => ("CoracleRace", "trial", "LCoracleRace$Fleet;", true)
def tyX3 : Nat → FieldType := fun k => match k with
  | 0 => .object "CoracleRace$River"
  | 1 => .object "CoracleRace$Fleet"
  | _ => .object "CoracleRace$Fleet"
abbrev wsX30 : List Cond := u_ws RX3 TX3 3
theorem nmX3 : ∀ a, a < 3 → ∀ b, b < 3 → a ≠ b → (TX3 a).2.1 ≠ (TX3 b).2.1 := by decide +kernel
theorem tyX3_ok : ∀ k, k < 3 → parseFieldDescriptor (TX3 k).2.2.1 = some (tyX3 k) := by decide +kernel
abbrev cX3_init : ByteArray := prog_1_method_1_code
def yX3_init : MethodName := ⟨RX3, "<init>", "()V"⟩
abbrev cX3_setWater : ByteArray := prog_1_method_2_code
def yX3_setWater : MethodName := ⟨RX3, "setWater", "(II)I"⟩
abbrev cX3_weir : ByteArray := prog_1_method_3_code
def yX3_weir : MethodName := ⟨RX3, "weir", "(II)I"⟩
abbrev cX3_launch : ByteArray := prog_1_method_4_code
def yX3_launch : MethodName := ⟨RX3, "launch", "(II)I"⟩
abbrev cX3_paddle : ByteArray := prog_1_method_5_code
def yX3_paddle : MethodName := ⟨RX3, "paddle", "(III)I"⟩
abbrev cX3_tar : ByteArray := prog_1_method_6_code
def yX3_tar : MethodName := ⟨RX3, "tar", "(I)I"⟩
abbrev cX3_boat : ByteArray := prog_1_method_7_code
def yX3_boat : MethodName := ⟨RX3, "boat", "(II)I"⟩
abbrev cX3_count : ByteArray := prog_1_method_8_code
def yX3_count : MethodName := ⟨RX3, "count", "(I)I"⟩
abbrev cX3_rank : ByteArray := prog_1_method_10_code
def yX3_rank : MethodName := ⟨RX3, "rank", "(I)I"⟩
abbrev cX3_go : ByteArray := prog_1_method_11_code
def yX3_go : MethodName := ⟨RX3, "go", "(I)I"⟩
abbrev cX3_arrives : ByteArray := prog_1_method_12_code
def yX3_arrives : MethodName := ⟨RX3, "arrives", "(I)I"⟩
abbrev cX3_foresee : ByteArray := prog_1_method_13_code
def yX3_foresee : MethodName := ⟨RX3, "foresee", "(II)I"⟩
abbrev cX3_advise : ByteArray := prog_1_method_14_code
def yX3_advise : MethodName := ⟨RX3, "advise", "(II)I"⟩
abbrev cX3_mean : ByteArray := prog_1_method_15_code
def yX3_mean : MethodName := ⟨RX3, "mean", "()D"⟩
abbrev cX3_digest : ByteArray := prog_1_method_16_code
def yX3_digest : MethodName := ⟨RX3, "digest", "()J"⟩
abbrev cX3_digestWith : ByteArray := prog_1_method_17_code
def yX3_digestWith : MethodName := ⟨RX3, "digestWith", "(JLCoracleRace$Boat;)J"⟩
abbrev cX3_countIn : ByteArray := prog_1_method_18_code
def yX3_countIn : MethodName := ⟨RX3, "countIn", "(LCoracleRace$Fleet;I)I"⟩
abbrev cX3_placeWith : ByteArray := prog_1_method_19_code
def yX3_placeWith : MethodName := ⟨RX3, "placeWith", "(III)I"⟩
abbrev cX3_isPattern : ByteArray := prog_1_method_20_code
def yX3_isPattern : MethodName := ⟨RX3, "isPattern", "(II)Z"⟩
def RX4 : String := "CoracleRaceLaw$Sim"
def TX4 : u_T := fun k => match k with
  | 0 => ("CoracleRaceLaw$Sim", "tick", "I", false)
  | 1 => ("CoracleRaceLaw$Sim", "water", "[I", false)
  | 2 => ("CoracleRaceLaw$Sim", "weirs", "[I", false)
  | 3 => ("CoracleRaceLaw$Sim", "many", "I", false)
  | 4 => ("CoracleRaceLaw$Sim", "boats", "[[I", false)
  | _ => ("CoracleRaceLaw$Sim", "strokes", "[[I", false)
def tyX4 : Nat → FieldType := fun k => match k with
  | 0 => .int
  | 1 => .array .int
  | 2 => .array .int
  | 3 => .int
  | 4 => .array (.array .int)
  | _ => .array (.array .int)
abbrev wsX40 : List Cond := u_ws RX4 TX4 6
theorem nmX4 : ∀ a, a < 6 → ∀ b, b < 6 → a ≠ b → (TX4 a).2.1 ≠ (TX4 b).2.1 := by decide +kernel
theorem tyX4_ok : ∀ k, k < 6 → parseFieldDescriptor (TX4 k).2.2.1 = some (tyX4 k) := by decide +kernel
abbrev cX4_init : ByteArray := prog_6_method_1_code
def yX4_init : MethodName := ⟨RX4, "<init>", "()V"⟩
abbrev cX4_more : ByteArray := prog_6_method_2_code
def yX4_more : MethodName := ⟨RX4, "more", "([[I[I)[[I"⟩
abbrev cX4_go : ByteArray := prog_6_method_3_code
def yX4_go : MethodName := ⟨RX4, "go", "(I)V"⟩
abbrev cX4_go_ : ByteArray := prog_6_method_4_code
def yX4_go_ : MethodName := ⟨RX4, "go", "()I"⟩
abbrev cX4_time : ByteArray := prog_6_method_5_code
def yX4_time : MethodName := ⟨RX4, "time", "([I)I"⟩
abbrev cX4_counts : ByteArray := prog_6_method_6_code
def yX4_counts : MethodName := ⟨RX4, "counts", "()[I"⟩
abbrev cX4_rank : ByteArray := prog_6_method_7_code
def yX4_rank : MethodName := ⟨RX4, "rank", "([I)I"⟩
abbrev cX4_isSame : ByteArray := prog_6_method_9_code
def yX4_isSame : MethodName := ⟨RX4, "isSame", "(LCoracleRace;)Z"⟩
def RX5 : String := "CoracleRaceModel$State"
def TX5 : u_T := fun k => match k with
  | _ => ("", "", "", false)
def tyX5 : Nat → FieldType := fun k => match k with
  | _ => .int
abbrev wsX50 : List Cond := u_ws RX5 TX5 0
theorem nmX5 : ∀ a, a < 0 → ∀ b, b < 0 → a ≠ b → (TX5 a).2.1 ≠ (TX5 b).2.1 := by decide +kernel
theorem tyX5_ok : ∀ k, k < 0 → parseFieldDescriptor (TX5 k).2.2.1 = some (tyX5 k) := by decide +kernel
def RX6 : String := "CoracleRaceModel"
def TX6 : u_T := fun k => match k with
  | _ => ("", "", "", false)
def tyX6 : Nat → FieldType := fun k => match k with
  | _ => .int
abbrev wsX60 : List Cond := u_ws RX6 TX6 0
theorem nmX6 : ∀ a, a < 0 → ∀ b, b < 0 → a ≠ b → (TX6 a).2.1 ≠ (TX6 b).2.1 := by decide +kernel
theorem tyX6_ok : ∀ k, k < 0 → parseFieldDescriptor (TX6 k).2.2.1 = some (tyX6 k) := by decide +kernel
def RJx145de : String := "java/io/Serializable"
def TJx145de : u_T := fun k => match k with
  | _ => ("", "", "", false)
def tyJx145de : Nat → FieldType := fun k => match k with
  | _ => .int
abbrev wsJx145de0 : List Cond := u_ws RJx145de TJx145de 0
theorem nmJx145de : ∀ a, a < 0 → ∀ b, b < 0 → a ≠ b → (TJx145de a).2.1 ≠ (TJx145de b).2.1 := by decide +kernel
theorem tyJx145de_ok : ∀ k, k < 0 → parseFieldDescriptor (TJx145de k).2.2.1 = some (tyJx145de k) := by decide +kernel
def RJ9 : String := "java/lang/Math"
def TJ9 : u_T := fun k => match k with
  | _ => ("", "", "", false)
def tyJ9 : Nat → FieldType := fun k => match k with
  | _ => .int
abbrev wsJ90 : List Cond := u_ws RJ9 TJ9 0
theorem nmJ9 : ∀ a, a < 0 → ∀ b, b < 0 → a ≠ b → (TJ9 a).2.1 ≠ (TJ9 b).2.1 := by decide +kernel
theorem tyJ9_ok : ∀ k, k < 0 → parseFieldDescriptor (TJ9 k).2.2.1 = some (tyJ9 k) := by decide +kernel
abbrev cJ9_floorMod_7cf53 : ByteArray := prog_13_method_50_code
def yJ9_floorMod_7cf53 : MethodName := ⟨RJ9, "floorMod", "(II)I"⟩
abbrev cJ9_abs_0f7a4 : ByteArray := prog_13_method_59_code
def yJ9_abs_0f7a4 : MethodName := ⟨RJ9, "abs", "(I)I"⟩
abbrev cJ9_max_7cf53 : ByteArray := prog_13_method_65_code
def yJ9_max_7cf53 : MethodName := ⟨RJ9, "max", "(II)I"⟩
abbrev cJ9_min_7cf53 : ByteArray := prog_13_method_69_code
def yJ9_min_7cf53 : MethodName := ⟨RJ9, "min", "(II)I"⟩
def RJ0 : String := "java/lang/String"
def TJ0 : u_T := fun k => match k with
  | _ => ("", "", "", false)
def tyJ0 : Nat → FieldType := fun k => match k with
  | _ => .int
abbrev wsJ00 : List Cond := u_ws RJ0 TJ0 0
theorem nmJ0 : ∀ a, a < 0 → ∀ b, b < 0 → a ≠ b → (TJ0 a).2.1 ≠ (TJ0 b).2.1 := by decide +kernel
theorem tyJ0_ok : ∀ k, k < 0 → parseFieldDescriptor (TJ0 k).2.2.1 = some (tyJ0 k) := by decide +kernel
def RJ10 : String := "java/lang/System"
def TJ10 : u_T := fun k => match k with
  | _ => ("", "", "", false)
def tyJ10 : Nat → FieldType := fun k => match k with
  | _ => .int
abbrev wsJ100 : List Cond := u_ws RJ10 TJ10 0
theorem nmJ10 : ∀ a, a < 0 → ∀ b, b < 0 → a ≠ b → (TJ10 a).2.1 ≠ (TJ10 b).2.1 := by decide +kernel
theorem tyJ10_ok : ∀ k, k < 0 → parseFieldDescriptor (TJ10 k).2.2.1 = some (tyJ10 k) := by decide +kernel
def RJ7 : String := "java/util/Arrays"
def TJ7 : u_T := fun k => match k with
  | _ => ("", "", "", false)
def tyJ7 : Nat → FieldType := fun k => match k with
  | _ => .int
abbrev wsJ70 : List Cond := u_ws RJ7 TJ7 0
theorem nmJ7 : ∀ a, a < 0 → ∀ b, b < 0 → a ≠ b → (TJ7 a).2.1 ≠ (TJ7 b).2.1 := by decide +kernel
theorem tyJ7_ok : ∀ k, k < 0 → parseFieldDescriptor (TJ7 k).2.2.1 = some (tyJ7 k) := by decide +kernel
abbrev cJ7_fill_53178 : ByteArray := prog_18_method_103_code
def yJ7_fill_53178 : MethodName := ⟨RJ7, "fill", "([II)V"⟩
def RL : String := "CoracleRaceLaw"
abbrev cL_below : ByteArray := method_2_code
def yL_below : MethodName := ⟨RL, "below", "(II)I"⟩
abbrev cL_cell : ByteArray := method_3_code
def yL_cell : MethodName := ⟨RL, "cell", "([II)I"⟩
abbrev cL_act : ByteArray := method_4_code
def yL_act : MethodName := ⟨RL, "act", "(LCoracleRace;LCoracleRaceLaw$Sim;I)Z"⟩
abbrev cL_build : ByteArray := method_5_code
def yL_build : MethodName := ⟨RL, "build", "(LCoracleRace;[I)LCoracleRaceLaw$Sim;"⟩
abbrev cL_law : ByteArray := code
def yL_law : MethodName := ⟨RL, "law", "([I)Z"⟩
def wsX0_init : List Cond := .code yX0_init cX0_init 1 none :: ([.methodLink RX0 1 objectInit, .instanceMethod objectInit, .code objectInit ⟨#[0xb1]⟩ 1 none, .arrayClass .int, .fieldLink RX0 9 "CoracleRace$Boat" "strokes" "[I", .fieldLink RX0 13 "CoracleRace$Boat" "length" "I", .fieldLink RX0 17 "CoracleRace$Boat" "strength" "I", .fieldLink RX0 20 "CoracleRace$Boat" "place" "I", .fieldLink RX0 23 "CoracleRace$Boat" "lane" "I", .fieldLink RX0 26 "CoracleRace$Boat" "heading" "I", .fieldLink RX0 29 "CoracleRace$Boat" "soaked" "I", .fieldLink RX0 32 "CoracleRace$Boat" "fouls" "I", .fieldLink RX0 35 "CoracleRace$Boat" "in" "Z", .fieldLink RX0 39 "CoracleRace$Boat" "tickIn" "I", .fieldLink RX0 42 "CoracleRace$Boat" "spins" "I", .fieldLink RX0 45 "CoracleRace$Boat" "stops" "I"] ++ wsX00)
def wsX0_takePattern : List Cond := .code yX0_takePattern cX0_takePattern 5 none :: ([.fieldLink RX0 9 "CoracleRace$Boat" "strokes" "[I", .fieldLink RX0 13 "CoracleRace$Boat" "length" "I"] ++ wsX00)
def wsX0_start : List Cond := .code yX0_start cX0_start 3 none :: ([.fieldLink RX0 23 "CoracleRace$Boat" "lane" "I", .fieldLink RX0 17 "CoracleRace$Boat" "strength" "I", .methodLink RX0 48 yX0_takePattern, .instanceMethod yX0_takePattern, .selects RX0 yX0_takePattern yX0_takePattern, .initialized RX0, .code yX0_takePattern cX0_takePattern 5 none, .fieldLink RX0 9 "CoracleRace$Boat" "strokes" "[I", .fieldLink RX0 13 "CoracleRace$Boat" "length" "I"] ++ wsX00)
def wsX0_copyFrom : List Cond := .code yX0_copyFrom cX0_copyFrom 2 none :: ([.fieldLink RX0 9 "CoracleRace$Boat" "strokes" "[I", .methodLink RX0 52 arraycopyName, .native arraycopyName, .static arraycopyName, .initialized "java/lang/System", .fieldLink RX0 13 "CoracleRace$Boat" "length" "I", .fieldLink RX0 17 "CoracleRace$Boat" "strength" "I", .fieldLink RX0 20 "CoracleRace$Boat" "place" "I", .fieldLink RX0 23 "CoracleRace$Boat" "lane" "I", .fieldLink RX0 26 "CoracleRace$Boat" "heading" "I", .fieldLink RX0 29 "CoracleRace$Boat" "soaked" "I", .fieldLink RX0 32 "CoracleRace$Boat" "fouls" "I", .fieldLink RX0 35 "CoracleRace$Boat" "in" "Z", .fieldLink RX0 39 "CoracleRace$Boat" "tickIn" "I", .fieldLink RX0 42 "CoracleRace$Boat" "spins" "I", .fieldLink RX0 45 "CoracleRace$Boat" "stops" "I"] ++ wsX00)
def wsX0_isIn : List Cond := .code yX0_isIn cX0_isIn 1 (some .boolean) :: ([.fieldLink RX0 35 "CoracleRace$Boat" "in" "Z"] ++ wsX00)
def wsX0_time : List Cond := .code yX0_time cX0_time 1 (some .int) :: ([.fieldLink RX0 35 "CoracleRace$Boat" "in" "Z", .fieldLink RX0 39 "CoracleRace$Boat" "tickIn" "I", .fieldLink RX0 32 "CoracleRace$Boat" "fouls" "I"] ++ wsX00)
def wsX0_fact : List Cond := .code yX0_fact cX0_fact 2 (some .int) :: ([.fieldLink RX0 20 "CoracleRace$Boat" "place" "I", .fieldLink RX0 23 "CoracleRace$Boat" "lane" "I", .fieldLink RX0 26 "CoracleRace$Boat" "heading" "I", .fieldLink RX0 29 "CoracleRace$Boat" "soaked" "I", .fieldLink RX0 32 "CoracleRace$Boat" "fouls" "I", .fieldLink RX0 35 "CoracleRace$Boat" "in" "Z", .fieldLink RX0 42 "CoracleRace$Boat" "spins" "I", .fieldLink RX0 45 "CoracleRace$Boat" "stops" "I", .methodLink RX0 58 yX0_time, .instanceMethod yX0_time, .selects RX0 yX0_time yX0_time, .initialized RX0, .code yX0_time cX0_time 1 (some .int), .fieldLink RX0 39 "CoracleRace$Boat" "tickIn" "I"] ++ wsX00)
def wsX0_isAheadOf : List Cond := .code yX0_isAheadOf cX0_isAheadOf 2 (some .boolean) :: ([.fieldLink RX0 35 "CoracleRace$Boat" "in" "Z", .fieldLink RX0 20 "CoracleRace$Boat" "place" "I", .methodLink RX0 58 yX0_time, .instanceMethod yX0_time, .selects RX0 yX0_time yX0_time, .initialized RX0, .code yX0_time cX0_time 1 (some .int), .fieldLink RX0 39 "CoracleRace$Boat" "tickIn" "I", .fieldLink RX0 32 "CoracleRace$Boat" "fouls" "I"] ++ wsX00)
def wsX0_dryOut : List Cond := .code yX0_dryOut cX0_dryOut 2 (some .int) :: ([.fieldLink RX0 29 "CoracleRace$Boat" "soaked" "I", .fieldLink RX0 32 "CoracleRace$Boat" "fouls" "I"] ++ wsX00)
def wsJ9_floorMod_7cf53 : List Cond := .code yJ9_floorMod_7cf53 cJ9_floorMod_7cf53 3 (some .int) :: ([])
def wsX0_strokeIn : List Cond := .code yX0_strokeIn cX0_strokeIn 2 (some .int) :: ([.fieldLink RX0 13 "CoracleRace$Boat" "length" "I", .fieldLink RX0 9 "CoracleRace$Boat" "strokes" "[I", .methodLink RX0 82 yJ9_floorMod_7cf53, .static yJ9_floorMod_7cf53, .initialized RJ9, .code yJ9_floorMod_7cf53 cJ9_floorMod_7cf53 3 (some .int)] ++ wsX00)
def wsX0_pushOf : List Cond := .code yX0_pushOf cX0_pushOf 2 (some .int) :: ([.fieldLink RX0 17 "CoracleRace$Boat" "strength" "I"] ++ wsX00)
def wsX0_forceOf : List Cond := .code yX0_forceOf cX0_forceOf 2 (some .int) :: ([.fieldLink RX0 26 "CoracleRace$Boat" "heading" "I", .fieldLink RX0 42 "CoracleRace$Boat" "spins" "I", .fieldLink RX0 29 "CoracleRace$Boat" "soaked" "I", .methodLink RX0 91 Lib.Math.max.name, .static Lib.Math.max.name, .initialized "java/lang/Math", .code Lib.Math.max.name Lib.Math.max.code 2 (some .int), .methodLink RX0 88 yX0_pushOf, .instanceMethod yX0_pushOf, .selects RX0 yX0_pushOf yX0_pushOf, .initialized RX0, .code yX0_pushOf cX0_pushOf 2 (some .int), .fieldLink RX0 17 "CoracleRace$Boat" "strength" "I"] ++ wsX00)
def wsX2_isLane : List Cond := .code yX2_isLane cX2_isLane 1 (some .boolean) :: ([])
def wsX0_drift : List Cond := .code yX0_drift cX0_drift 2 none :: ([.fieldLink RX0 23 "CoracleRace$Boat" "lane" "I", .fieldLink RX0 26 "CoracleRace$Boat" "heading" "I", .fieldLink RX0 32 "CoracleRace$Boat" "fouls" "I", .methodLink RX0 94 yX2_isLane, .static yX2_isLane, .initialized RX2, .code yX2_isLane cX2_isLane 1 (some .boolean)] ++ wsX00)
def wsX2_firstStop : List Cond := .code yX2_firstStop cX2_firstStop 7 (some .int) :: ([.fieldLink RX2 19 "CoracleRace$River" "weirs" "I", .fieldLink RX2 13 "CoracleRace$River" "places" "[I", .fieldLink RX2 16 "CoracleRace$River" "gaps" "[I"] ++ wsX20)
def wsX0_soak : List Cond := .code yX0_soak cX0_soak 2 none :: ([.fieldLink RX0 29 "CoracleRace$Boat" "soaked" "I", .methodLink RX0 108 Lib.Math.min.name, .static Lib.Math.min.name, .initialized "java/lang/Math", .code Lib.Math.min.name Lib.Math.min.code 2 (some .int)] ++ wsX00)
def wsX0_advance_r1 : List Cond := [Cond.fieldLink RX0 23 "CoracleRace$Boat" "lane" "I", Cond.fieldLink RX0 26 "CoracleRace$Boat" "heading" "I", Cond.methodLink RX0 98 Lib.Math.abs.name, Cond.static Lib.Math.abs.name, Cond.initialized "java/lang/Math", Cond.code Lib.Math.abs.name Lib.Math.abs.code 1 (some .int), Cond.fieldLink RX0 101 "CoracleRace$River" "water" "[I", Cond.fieldLink RX0 20 "CoracleRace$Boat" "place" "I", Cond.methodLink RX0 108 Lib.Math.min.name, Cond.static Lib.Math.min.name, Cond.code Lib.Math.min.name Lib.Math.min.code 2 (some .int), Cond.fieldLink RX0 45 "CoracleRace$Boat" "stops" "I", Cond.methodLink RX0 94 yX2_isLane, Cond.static yX2_isLane, Cond.initialized RX2, Cond.code yX2_isLane cX2_isLane 1 (some .boolean), Cond.methodLink RX0 104 yX2_firstStop, Cond.instanceMethod yX2_firstStop, Cond.selects RX2 yX2_firstStop yX2_firstStop, Cond.code yX2_firstStop cX2_firstStop 7 (some .int), Cond.fieldLink RX2 19 "CoracleRace$River" "weirs" "I", Cond.fieldLink RX2 13 "CoracleRace$River" "places" "[I", Cond.fieldLink RX2 16 "CoracleRace$River" "gaps" "[I", Cond.methodLink RX0 76 yX0_soak]
def wsX0_advance_r2 : List Cond := [Cond.instanceMethod yX0_soak, Cond.selects RX0 yX0_soak yX0_soak, Cond.initialized RX0, Cond.code yX0_soak cX0_soak 2 none, Cond.fieldLink RX0 29 "CoracleRace$Boat" "soaked" "I"]
def wsX0_advance : List Cond := .code yX0_advance cX0_advance 5 none :: ((wsX0_advance_r1 ++ wsX0_advance_r2) ++ wsX00 ++ wsX20)
def wsX0_letTickGoBy_r1 : List Cond := [Cond.fieldLink RX0 35 "CoracleRace$Boat" "in" "Z", Cond.fieldLink RX0 20 "CoracleRace$Boat" "place" "I", Cond.fieldLink RX0 39 "CoracleRace$Boat" "tickIn" "I", Cond.methodLink RX0 62 yX0_strokeIn, Cond.instanceMethod yX0_strokeIn, Cond.selects RX0 yX0_strokeIn yX0_strokeIn, Cond.initialized RX0, Cond.code yX0_strokeIn cX0_strokeIn 2 (some .int), Cond.fieldLink RX0 13 "CoracleRace$Boat" "length" "I", Cond.fieldLink RX0 9 "CoracleRace$Boat" "strokes" "[I", Cond.methodLink RX0 82 yJ9_floorMod_7cf53, Cond.static yJ9_floorMod_7cf53, Cond.initialized RJ9, Cond.code yJ9_floorMod_7cf53 cJ9_floorMod_7cf53 3 (some .int), Cond.methodLink RX0 66 yX0_forceOf, Cond.instanceMethod yX0_forceOf, Cond.selects RX0 yX0_forceOf yX0_forceOf, Cond.code yX0_forceOf cX0_forceOf 2 (some .int), Cond.fieldLink RX0 26 "CoracleRace$Boat" "heading" "I", Cond.fieldLink RX0 42 "CoracleRace$Boat" "spins" "I", Cond.fieldLink RX0 29 "CoracleRace$Boat" "soaked" "I", Cond.methodLink RX0 91 Lib.Math.max.name, Cond.static Lib.Math.max.name, Cond.initialized "java/lang/Math"]
def wsX0_letTickGoBy_r2 : List Cond := [Cond.code Lib.Math.max.name Lib.Math.max.code 2 (some .int), Cond.methodLink RX0 88 yX0_pushOf, Cond.instanceMethod yX0_pushOf, Cond.selects RX0 yX0_pushOf yX0_pushOf, Cond.code yX0_pushOf cX0_pushOf 2 (some .int), Cond.fieldLink RX0 17 "CoracleRace$Boat" "strength" "I", Cond.methodLink RX0 69 yX0_drift, Cond.instanceMethod yX0_drift, Cond.selects RX0 yX0_drift yX0_drift, Cond.code yX0_drift cX0_drift 2 none, Cond.fieldLink RX0 23 "CoracleRace$Boat" "lane" "I", Cond.fieldLink RX0 32 "CoracleRace$Boat" "fouls" "I", Cond.methodLink RX0 94 yX2_isLane, Cond.static yX2_isLane, Cond.initialized RX2, Cond.code yX2_isLane cX2_isLane 1 (some .boolean), Cond.methodLink RX0 72 yX0_advance, Cond.instanceMethod yX0_advance, Cond.selects RX0 yX0_advance yX0_advance, Cond.code yX0_advance cX0_advance 5 none, Cond.methodLink RX0 98 Lib.Math.abs.name, Cond.static Lib.Math.abs.name, Cond.code Lib.Math.abs.name Lib.Math.abs.code 1 (some .int), Cond.fieldLink RX0 101 "CoracleRace$River" "water" "[I"]
def wsX0_letTickGoBy_r3 : List Cond := [Cond.methodLink RX0 108 Lib.Math.min.name, Cond.static Lib.Math.min.name, Cond.code Lib.Math.min.name Lib.Math.min.code 2 (some .int), Cond.fieldLink RX0 45 "CoracleRace$Boat" "stops" "I", Cond.methodLink RX0 104 yX2_firstStop, Cond.instanceMethod yX2_firstStop, Cond.selects RX2 yX2_firstStop yX2_firstStop, Cond.code yX2_firstStop cX2_firstStop 7 (some .int), Cond.fieldLink RX2 19 "CoracleRace$River" "weirs" "I", Cond.fieldLink RX2 13 "CoracleRace$River" "places" "[I", Cond.fieldLink RX2 16 "CoracleRace$River" "gaps" "[I", Cond.methodLink RX0 76 yX0_soak, Cond.instanceMethod yX0_soak, Cond.selects RX0 yX0_soak yX0_soak, Cond.code yX0_soak cX0_soak 2 none]
def wsX0_letTickGoBy : List Cond := .code yX0_letTickGoBy cX0_letTickGoBy 4 none :: ((wsX0_letTickGoBy_r1 ++ (wsX0_letTickGoBy_r2 ++ wsX0_letTickGoBy_r3)) ++ wsX00 ++ wsX20)
def wsX1_init_r1 : List Cond := [Cond.methodLink RX1 1 objectInit, Cond.instanceMethod objectInit, Cond.code objectInit ⟨#[0xb1]⟩ 1 none, Cond.classLink RX1 9 RX0, Cond.fieldLink RX1 11 "CoracleRace$Fleet" "boats" "[LCoracleRace$Boat;", Cond.fieldLink RX1 15 "CoracleRace$Fleet" "size" "I", Cond.fieldLink RX1 19 "CoracleRace$Fleet" "tick" "I", Cond.instantiable RX0 12, Cond.initialized RX0, Cond.instanceMethod yX0_init, Cond.code yX0_init cX0_init 1 none, Cond.methodLink RX0 1 objectInit, Cond.arrayClass .int, Cond.fieldLink RX0 9 "CoracleRace$Boat" "strokes" "[I", Cond.fieldLink RX0 13 "CoracleRace$Boat" "length" "I", Cond.fieldLink RX0 17 "CoracleRace$Boat" "strength" "I", Cond.fieldLink RX0 20 "CoracleRace$Boat" "place" "I", Cond.fieldLink RX0 23 "CoracleRace$Boat" "lane" "I", Cond.fieldLink RX0 26 "CoracleRace$Boat" "heading" "I", Cond.fieldLink RX0 29 "CoracleRace$Boat" "soaked" "I", Cond.fieldLink RX0 32 "CoracleRace$Boat" "fouls" "I", Cond.fieldLink RX0 35 "CoracleRace$Boat" "in" "Z", Cond.fieldLink RX0 39 "CoracleRace$Boat" "tickIn" "I", Cond.fieldLink RX0 42 "CoracleRace$Boat" "spins" "I"]
def wsX1_init_r2 : List Cond := [Cond.fieldLink RX0 45 "CoracleRace$Boat" "stops" "I"]
def wsX1_init : List Cond := .code yX1_init cX1_init 2 none :: ((wsX1_init_r1 ++ wsX1_init_r2) ++ wsX10 ++ wsX00)
def wsX1_has : List Cond := .code yX1_has cX1_has 2 (some .boolean) :: ([.fieldLink RX1 15 "CoracleRace$Fleet" "size" "I"] ++ wsX10)
def wsX1_add : List Cond := .code yX1_add cX1_add 3 (some .int) :: ([.fieldLink RX1 15 "CoracleRace$Fleet" "size" "I", .fieldLink RX1 11 "CoracleRace$Fleet" "boats" "[LCoracleRace$Boat;", .methodLink RX1 23 yX0_start, .instanceMethod yX0_start, .selects RX0 yX0_start yX0_start, .initialized RX0, .code yX0_start cX0_start 3 none, .fieldLink RX0 23 "CoracleRace$Boat" "lane" "I", .fieldLink RX0 17 "CoracleRace$Boat" "strength" "I", .methodLink RX0 48 yX0_takePattern, .instanceMethod yX0_takePattern, .selects RX0 yX0_takePattern yX0_takePattern, .code yX0_takePattern cX0_takePattern 5 none, .fieldLink RX0 9 "CoracleRace$Boat" "strokes" "[I", .fieldLink RX0 13 "CoracleRace$Boat" "length" "I"] ++ wsX10 ++ wsX00)
def wsX1_copyFrom : List Cond := .code yX1_copyFrom cX1_copyFrom 3 none :: ([.fieldLink RX1 15 "CoracleRace$Fleet" "size" "I", .fieldLink RX1 19 "CoracleRace$Fleet" "tick" "I", .fieldLink RX1 11 "CoracleRace$Fleet" "boats" "[LCoracleRace$Boat;", .methodLink RX1 27 yX0_copyFrom, .instanceMethod yX0_copyFrom, .selects RX0 yX0_copyFrom yX0_copyFrom, .initialized RX0, .code yX0_copyFrom cX0_copyFrom 2 none, .fieldLink RX0 9 "CoracleRace$Boat" "strokes" "[I", .methodLink RX0 52 arraycopyName, .native arraycopyName, .static arraycopyName, .initialized "java/lang/System", .fieldLink RX0 13 "CoracleRace$Boat" "length" "I", .fieldLink RX0 17 "CoracleRace$Boat" "strength" "I", .fieldLink RX0 20 "CoracleRace$Boat" "place" "I", .fieldLink RX0 23 "CoracleRace$Boat" "lane" "I", .fieldLink RX0 26 "CoracleRace$Boat" "heading" "I", .fieldLink RX0 29 "CoracleRace$Boat" "soaked" "I", .fieldLink RX0 32 "CoracleRace$Boat" "fouls" "I", .fieldLink RX0 35 "CoracleRace$Boat" "in" "Z", .fieldLink RX0 39 "CoracleRace$Boat" "tickIn" "I", .fieldLink RX0 42 "CoracleRace$Boat" "spins" "I", .fieldLink RX0 45 "CoracleRace$Boat" "stops" "I"] ++ wsX10 ++ wsX00)
def wsX1_letTicksGoBy_r1 : List Cond := [Cond.fieldLink RX1 15 "CoracleRace$Fleet" "size" "I", Cond.fieldLink RX1 11 "CoracleRace$Fleet" "boats" "[LCoracleRace$Boat;", Cond.fieldLink RX1 19 "CoracleRace$Fleet" "tick" "I", Cond.methodLink RX1 31 yX0_letTickGoBy, Cond.instanceMethod yX0_letTickGoBy, Cond.selects RX0 yX0_letTickGoBy yX0_letTickGoBy, Cond.initialized RX0, Cond.code yX0_letTickGoBy cX0_letTickGoBy 4 none, Cond.fieldLink RX0 35 "CoracleRace$Boat" "in" "Z", Cond.fieldLink RX0 20 "CoracleRace$Boat" "place" "I", Cond.fieldLink RX0 39 "CoracleRace$Boat" "tickIn" "I", Cond.methodLink RX0 62 yX0_strokeIn, Cond.instanceMethod yX0_strokeIn, Cond.selects RX0 yX0_strokeIn yX0_strokeIn, Cond.code yX0_strokeIn cX0_strokeIn 2 (some .int), Cond.fieldLink RX0 13 "CoracleRace$Boat" "length" "I", Cond.fieldLink RX0 9 "CoracleRace$Boat" "strokes" "[I", Cond.methodLink RX0 82 yJ9_floorMod_7cf53, Cond.static yJ9_floorMod_7cf53, Cond.initialized RJ9, Cond.code yJ9_floorMod_7cf53 cJ9_floorMod_7cf53 3 (some .int), Cond.methodLink RX0 66 yX0_forceOf, Cond.instanceMethod yX0_forceOf, Cond.selects RX0 yX0_forceOf yX0_forceOf]
def wsX1_letTicksGoBy_r2 : List Cond := [Cond.code yX0_forceOf cX0_forceOf 2 (some .int), Cond.fieldLink RX0 26 "CoracleRace$Boat" "heading" "I", Cond.fieldLink RX0 42 "CoracleRace$Boat" "spins" "I", Cond.fieldLink RX0 29 "CoracleRace$Boat" "soaked" "I", Cond.methodLink RX0 91 Lib.Math.max.name, Cond.static Lib.Math.max.name, Cond.initialized "java/lang/Math", Cond.code Lib.Math.max.name Lib.Math.max.code 2 (some .int), Cond.methodLink RX0 88 yX0_pushOf, Cond.instanceMethod yX0_pushOf, Cond.selects RX0 yX0_pushOf yX0_pushOf, Cond.code yX0_pushOf cX0_pushOf 2 (some .int), Cond.fieldLink RX0 17 "CoracleRace$Boat" "strength" "I", Cond.methodLink RX0 69 yX0_drift, Cond.instanceMethod yX0_drift, Cond.selects RX0 yX0_drift yX0_drift, Cond.code yX0_drift cX0_drift 2 none, Cond.fieldLink RX0 23 "CoracleRace$Boat" "lane" "I", Cond.fieldLink RX0 32 "CoracleRace$Boat" "fouls" "I", Cond.methodLink RX0 94 yX2_isLane, Cond.static yX2_isLane, Cond.initialized RX2, Cond.code yX2_isLane cX2_isLane 1 (some .boolean), Cond.methodLink RX0 72 yX0_advance]
def wsX1_letTicksGoBy_r3 : List Cond := [Cond.instanceMethod yX0_advance, Cond.selects RX0 yX0_advance yX0_advance, Cond.code yX0_advance cX0_advance 5 none, Cond.methodLink RX0 98 Lib.Math.abs.name, Cond.static Lib.Math.abs.name, Cond.code Lib.Math.abs.name Lib.Math.abs.code 1 (some .int), Cond.fieldLink RX0 101 "CoracleRace$River" "water" "[I", Cond.methodLink RX0 108 Lib.Math.min.name, Cond.static Lib.Math.min.name, Cond.code Lib.Math.min.name Lib.Math.min.code 2 (some .int), Cond.fieldLink RX0 45 "CoracleRace$Boat" "stops" "I", Cond.methodLink RX0 104 yX2_firstStop, Cond.instanceMethod yX2_firstStop, Cond.selects RX2 yX2_firstStop yX2_firstStop, Cond.code yX2_firstStop cX2_firstStop 7 (some .int), Cond.fieldLink RX2 19 "CoracleRace$River" "weirs" "I", Cond.fieldLink RX2 13 "CoracleRace$River" "places" "[I", Cond.fieldLink RX2 16 "CoracleRace$River" "gaps" "[I", Cond.methodLink RX0 76 yX0_soak, Cond.instanceMethod yX0_soak, Cond.selects RX0 yX0_soak yX0_soak, Cond.code yX0_soak cX0_soak 2 none]
def wsX1_letTicksGoBy : List Cond := .code yX1_letTicksGoBy cX1_letTicksGoBy 5 none :: ((wsX1_letTicksGoBy_r1 ++ (wsX1_letTicksGoBy_r2 ++ wsX1_letTicksGoBy_r3)) ++ wsX10 ++ wsX00 ++ wsX20)
def wsX1_boatsIn : List Cond := .code yX1_boatsIn cX1_boatsIn 3 (some .int) :: ([.fieldLink RX1 15 "CoracleRace$Fleet" "size" "I", .fieldLink RX1 11 "CoracleRace$Fleet" "boats" "[LCoracleRace$Boat;", .methodLink RX1 35 yX0_isIn, .instanceMethod yX0_isIn, .selects RX0 yX0_isIn yX0_isIn, .initialized RX0, .code yX0_isIn cX0_isIn 1 (some .boolean), .fieldLink RX0 35 "CoracleRace$Boat" "in" "Z"] ++ wsX10 ++ wsX00)
def wsX1_foulsAdded : List Cond := .code yX1_foulsAdded cX1_foulsAdded 3 (some .int) :: ([.fieldLink RX1 15 "CoracleRace$Fleet" "size" "I", .fieldLink RX1 11 "CoracleRace$Fleet" "boats" "[LCoracleRace$Boat;", .fieldLink RX1 39 "CoracleRace$Boat" "fouls" "I"] ++ wsX10 ++ wsX00)
def wsX1_placesAdded : List Cond := .code yX1_placesAdded cX1_placesAdded 3 (some .int) :: ([.fieldLink RX1 15 "CoracleRace$Fleet" "size" "I", .fieldLink RX1 11 "CoracleRace$Fleet" "boats" "[LCoracleRace$Boat;", .fieldLink RX1 42 "CoracleRace$Boat" "place" "I"] ++ wsX10 ++ wsX00)
def wsX1_leader : List Cond := .code yX1_leader cX1_leader 4 (some .int) :: ([.fieldLink RX1 15 "CoracleRace$Fleet" "size" "I", .fieldLink RX1 11 "CoracleRace$Fleet" "boats" "[LCoracleRace$Boat;", .fieldLink RX1 42 "CoracleRace$Boat" "place" "I", .methodLink RX1 35 yX0_isIn, .instanceMethod yX0_isIn, .selects RX0 yX0_isIn yX0_isIn, .initialized RX0, .code yX0_isIn cX0_isIn 1 (some .boolean), .fieldLink RX0 35 "CoracleRace$Boat" "in" "Z"] ++ wsX10 ++ wsX00)
def wsX1_winner : List Cond := .code yX1_winner cX1_winner 4 (some .int) :: ([.fieldLink RX1 15 "CoracleRace$Fleet" "size" "I", .fieldLink RX1 11 "CoracleRace$Fleet" "boats" "[LCoracleRace$Boat;", .methodLink RX1 35 yX0_isIn, .instanceMethod yX0_isIn, .selects RX0 yX0_isIn yX0_isIn, .initialized RX0, .code yX0_isIn cX0_isIn 1 (some .boolean), .fieldLink RX0 35 "CoracleRace$Boat" "in" "Z", .methodLink RX1 45 yX0_time, .instanceMethod yX0_time, .selects RX0 yX0_time yX0_time, .code yX0_time cX0_time 1 (some .int), .fieldLink RX0 39 "CoracleRace$Boat" "tickIn" "I", .fieldLink RX0 32 "CoracleRace$Boat" "fouls" "I"] ++ wsX10 ++ wsX00)
def wsX1_rankOf : List Cond := .code yX1_rankOf cX1_rankOf 4 (some .int) :: ([.fieldLink RX1 15 "CoracleRace$Fleet" "size" "I", .fieldLink RX1 11 "CoracleRace$Fleet" "boats" "[LCoracleRace$Boat;", .methodLink RX1 49 yX0_isAheadOf, .instanceMethod yX0_isAheadOf, .selects RX0 yX0_isAheadOf yX0_isAheadOf, .initialized RX0, .code yX0_isAheadOf cX0_isAheadOf 2 (some .boolean), .fieldLink RX0 35 "CoracleRace$Boat" "in" "Z", .fieldLink RX0 20 "CoracleRace$Boat" "place" "I", .methodLink RX0 58 yX0_time, .instanceMethod yX0_time, .selects RX0 yX0_time yX0_time, .code yX0_time cX0_time 1 (some .int), .fieldLink RX0 39 "CoracleRace$Boat" "tickIn" "I", .fieldLink RX0 32 "CoracleRace$Boat" "fouls" "I"] ++ wsX10 ++ wsX00)
def wsX2_init : List Cond := .code yX2_init cX2_init 1 none :: ([.methodLink RX2 1 objectInit, .instanceMethod objectInit, .code objectInit ⟨#[0xb1]⟩ 1 none, .arrayClass .int, .fieldLink RX2 7 "CoracleRace$River" "water" "[I", .fieldLink RX2 13 "CoracleRace$River" "places" "[I", .fieldLink RX2 16 "CoracleRace$River" "gaps" "[I", .fieldLink RX2 19 "CoracleRace$River" "weirs" "I"] ++ wsX20)
def wsX2_hasWeirAt : List Cond := .code yX2_hasWeirAt cX2_hasWeirAt 3 (some .boolean) :: ([.fieldLink RX2 19 "CoracleRace$River" "weirs" "I", .fieldLink RX2 13 "CoracleRace$River" "places" "[I"] ++ wsX20)
def wsX2_addWeir : List Cond := .code yX2_addWeir cX2_addWeir 3 none :: ([.fieldLink RX2 19 "CoracleRace$River" "weirs" "I", .fieldLink RX2 13 "CoracleRace$River" "places" "[I", .fieldLink RX2 16 "CoracleRace$River" "gaps" "[I"] ++ wsX20)
def wsX3_init_r1 : List Cond := [Cond.methodLink RX3 1 objectInit, Cond.instanceMethod objectInit, Cond.code objectInit ⟨#[0xb1]⟩ 1 none, Cond.classLink RX3 7 RX2, Cond.instantiable RX2 4, Cond.initialized RX2, Cond.fieldLink RX3 10 "CoracleRace" "river" "LCoracleRace$River;", Cond.classLink RX3 16 RX1, Cond.instantiable RX1 3, Cond.initialized RX1, Cond.fieldLink RX3 19 "CoracleRace" "fleet" "LCoracleRace$Fleet;", Cond.fieldLink RX3 23 "CoracleRace" "trial" "LCoracleRace$Fleet;", Cond.instanceMethod yX2_init, Cond.code yX2_init cX2_init 1 none, Cond.methodLink RX2 1 objectInit, Cond.arrayClass .int, Cond.fieldLink RX2 7 "CoracleRace$River" "water" "[I", Cond.fieldLink RX2 13 "CoracleRace$River" "places" "[I", Cond.fieldLink RX2 16 "CoracleRace$River" "gaps" "[I", Cond.fieldLink RX2 19 "CoracleRace$River" "weirs" "I", Cond.methodLink RX3 18 yX1_init, Cond.instanceMethod yX1_init, Cond.code yX1_init cX1_init 2 none, Cond.methodLink RX1 1 objectInit]
def wsX3_init_r2 : List Cond := [Cond.classLink RX1 9 RX0, Cond.fieldLink RX1 11 "CoracleRace$Fleet" "boats" "[LCoracleRace$Boat;", Cond.fieldLink RX1 15 "CoracleRace$Fleet" "size" "I", Cond.fieldLink RX1 19 "CoracleRace$Fleet" "tick" "I", Cond.instantiable RX0 12, Cond.initialized RX0, Cond.instanceMethod yX0_init, Cond.code yX0_init cX0_init 1 none, Cond.methodLink RX0 1 objectInit, Cond.fieldLink RX0 9 "CoracleRace$Boat" "strokes" "[I", Cond.fieldLink RX0 13 "CoracleRace$Boat" "length" "I", Cond.fieldLink RX0 17 "CoracleRace$Boat" "strength" "I", Cond.fieldLink RX0 20 "CoracleRace$Boat" "place" "I", Cond.fieldLink RX0 23 "CoracleRace$Boat" "lane" "I", Cond.fieldLink RX0 26 "CoracleRace$Boat" "heading" "I", Cond.fieldLink RX0 29 "CoracleRace$Boat" "soaked" "I", Cond.fieldLink RX0 32 "CoracleRace$Boat" "fouls" "I", Cond.fieldLink RX0 35 "CoracleRace$Boat" "in" "Z", Cond.fieldLink RX0 39 "CoracleRace$Boat" "tickIn" "I", Cond.fieldLink RX0 42 "CoracleRace$Boat" "spins" "I", Cond.fieldLink RX0 45 "CoracleRace$Boat" "stops" "I"]
def wsX3_init : List Cond := .code yX3_init cX3_init 1 none :: ((wsX3_init_r1 ++ wsX3_init_r2) ++ wsX20 ++ wsX30 ++ wsX10 ++ wsX00)
def wsX3_setWater : List Cond := .code yX3_setWater cX3_setWater 4 (some .int) :: ([.classLink RX3 30 "java/lang/IndexOutOfBoundsException", .initialized "java/lang/IndexOutOfBoundsException", .classLink RX3 37 "java/lang/IllegalArgumentException", .initialized "java/lang/IllegalArgumentException", .fieldLink RX3 10 "CoracleRace" "river" "LCoracleRace$River;", .fieldLink RX3 42 "CoracleRace$River" "water" "[I", .methodLink RX3 26 yX2_isLane, .static yX2_isLane, .initialized RX2, .code yX2_isLane cX2_isLane 1 (some .boolean)] ++ wsX30 ++ wsX20 ++ (vx_atS RX3 34 "java/lang/IndexOutOfBoundsException" ["java/lang/RuntimeException", "java/lang/Exception"]).filter goodWord ++ (vx_atS RX3 41 "java/lang/IllegalArgumentException" ["java/lang/RuntimeException", "java/lang/Exception"]).filter goodWord)
def wsX3_weir : List Cond := .code yX3_weir cX3_weir 3 (some .int) :: ([.classLink RX3 37 "java/lang/IllegalArgumentException", .initialized "java/lang/IllegalArgumentException", .classLink RX3 54 "java/lang/IllegalStateException", .initialized "java/lang/IllegalStateException", .fieldLink RX3 10 "CoracleRace" "river" "LCoracleRace$River;", .fieldLink RX3 50 "CoracleRace$River" "weirs" "I", .methodLink RX3 26 yX2_isLane, .static yX2_isLane, .initialized RX2, .code yX2_isLane cX2_isLane 1 (some .boolean), .methodLink RX3 59 yX2_hasWeirAt, .instanceMethod yX2_hasWeirAt, .selects RX2 yX2_hasWeirAt yX2_hasWeirAt, .code yX2_hasWeirAt cX2_hasWeirAt 3 (some .boolean), .fieldLink RX2 19 "CoracleRace$River" "weirs" "I", .fieldLink RX2 13 "CoracleRace$River" "places" "[I", .methodLink RX3 64 yX2_addWeir, .instanceMethod yX2_addWeir, .selects RX2 yX2_addWeir yX2_addWeir, .code yX2_addWeir cX2_addWeir 3 none, .fieldLink RX2 16 "CoracleRace$River" "gaps" "[I"] ++ wsX30 ++ wsX20 ++ (vx_atS RX3 41 "java/lang/IllegalArgumentException" ["java/lang/RuntimeException", "java/lang/Exception"]).filter goodWord ++ (vx_atS RX3 58 "java/lang/IllegalStateException" ["java/lang/RuntimeException", "java/lang/Exception"]).filter goodWord)
def wsX3_launch_r1 : List Cond := [Cond.classLink RX3 37 "java/lang/IllegalArgumentException", Cond.initialized "java/lang/IllegalArgumentException", Cond.classLink RX3 54 "java/lang/IllegalStateException", Cond.initialized "java/lang/IllegalStateException", Cond.fieldLink RX3 19 "CoracleRace" "fleet" "LCoracleRace$Fleet;", Cond.fieldLink RX3 74 "CoracleRace$Fleet" "size" "I", Cond.methodLink RX3 26 yX2_isLane, Cond.static yX2_isLane, Cond.initialized RX2, Cond.code yX2_isLane cX2_isLane 1 (some .boolean), Cond.methodLink RX3 79 yX1_add, Cond.instanceMethod yX1_add, Cond.selects RX1 yX1_add yX1_add, Cond.initialized RX1, Cond.code yX1_add cX1_add 3 (some .int), Cond.fieldLink RX1 15 "CoracleRace$Fleet" "size" "I", Cond.fieldLink RX1 11 "CoracleRace$Fleet" "boats" "[LCoracleRace$Boat;", Cond.methodLink RX1 23 yX0_start, Cond.instanceMethod yX0_start, Cond.selects RX0 yX0_start yX0_start, Cond.initialized RX0, Cond.code yX0_start cX0_start 3 none, Cond.fieldLink RX0 23 "CoracleRace$Boat" "lane" "I", Cond.fieldLink RX0 17 "CoracleRace$Boat" "strength" "I"]
def wsX3_launch_r2 : List Cond := [Cond.methodLink RX0 48 yX0_takePattern, Cond.instanceMethod yX0_takePattern, Cond.selects RX0 yX0_takePattern yX0_takePattern, Cond.code yX0_takePattern cX0_takePattern 5 none, Cond.fieldLink RX0 9 "CoracleRace$Boat" "strokes" "[I", Cond.fieldLink RX0 13 "CoracleRace$Boat" "length" "I"]
def wsX3_launch : List Cond := .code yX3_launch cX3_launch 3 (some .int) :: ((wsX3_launch_r1 ++ wsX3_launch_r2) ++ wsX30 ++ wsX10 ++ wsX00 ++ (vx_atS RX3 41 "java/lang/IllegalArgumentException" ["java/lang/RuntimeException", "java/lang/Exception"]).filter goodWord ++ (vx_atS RX3 58 "java/lang/IllegalStateException" ["java/lang/RuntimeException", "java/lang/Exception"]).filter goodWord)
def wsX3_isPattern : List Cond := .code yX3_isPattern cX3_isPattern 4 (some .boolean) :: ([])
def wsX3_paddle : List Cond := .code yX3_paddle cX3_paddle 5 (some .int) :: ([.classLink RX3 30 "java/lang/IndexOutOfBoundsException", .initialized "java/lang/IndexOutOfBoundsException", .classLink RX3 37 "java/lang/IllegalArgumentException", .initialized "java/lang/IllegalArgumentException", .fieldLink RX3 19 "CoracleRace" "fleet" "LCoracleRace$Fleet;", .fieldLink RX3 96 "CoracleRace$Fleet" "boats" "[LCoracleRace$Boat;", .fieldLink RX3 100 "CoracleRace$Boat" "length" "I", .methodLink RX3 83 yX1_has, .instanceMethod yX1_has, .selects RX1 yX1_has yX1_has, .initialized RX1, .code yX1_has cX1_has 2 (some .boolean), .fieldLink RX1 15 "CoracleRace$Fleet" "size" "I", .methodLink RX3 90 yX3_isPattern, .static yX3_isPattern, .initialized RX3, .code yX3_isPattern cX3_isPattern 4 (some .boolean), .methodLink RX3 103 yX0_takePattern, .instanceMethod yX0_takePattern, .selects RX0 yX0_takePattern yX0_takePattern, .initialized RX0, .code yX0_takePattern cX0_takePattern 5 none, .fieldLink RX0 9 "CoracleRace$Boat" "strokes" "[I", .fieldLink RX0 13 "CoracleRace$Boat" "length" "I"] ++ wsX30 ++ wsX10 ++ wsX00 ++ (vx_atS RX3 34 "java/lang/IndexOutOfBoundsException" ["java/lang/RuntimeException", "java/lang/Exception"]).filter goodWord ++ (vx_atS RX3 41 "java/lang/IllegalArgumentException" ["java/lang/RuntimeException", "java/lang/Exception"]).filter goodWord)
def wsX3_tar : List Cond := .code yX3_tar cX3_tar 2 (some .int) :: ([.classLink RX3 30 "java/lang/IndexOutOfBoundsException", .initialized "java/lang/IndexOutOfBoundsException", .classLink RX3 54 "java/lang/IllegalStateException", .initialized "java/lang/IllegalStateException", .fieldLink RX3 19 "CoracleRace" "fleet" "LCoracleRace$Fleet;", .fieldLink RX3 96 "CoracleRace$Fleet" "boats" "[LCoracleRace$Boat;", .methodLink RX3 83 yX1_has, .instanceMethod yX1_has, .selects RX1 yX1_has yX1_has, .initialized RX1, .code yX1_has cX1_has 2 (some .boolean), .fieldLink RX1 15 "CoracleRace$Fleet" "size" "I", .methodLink RX3 106 yX0_isIn, .instanceMethod yX0_isIn, .selects RX0 yX0_isIn yX0_isIn, .initialized RX0, .code yX0_isIn cX0_isIn 1 (some .boolean), .fieldLink RX0 35 "CoracleRace$Boat" "in" "Z", .methodLink RX3 112 yX0_dryOut, .instanceMethod yX0_dryOut, .selects RX0 yX0_dryOut yX0_dryOut, .code yX0_dryOut cX0_dryOut 2 (some .int), .fieldLink RX0 29 "CoracleRace$Boat" "soaked" "I", .fieldLink RX0 32 "CoracleRace$Boat" "fouls" "I"] ++ wsX30 ++ wsX10 ++ wsX00 ++ (vx_atS RX3 34 "java/lang/IndexOutOfBoundsException" ["java/lang/RuntimeException", "java/lang/Exception"]).filter goodWord ++ (vx_atS RX3 58 "java/lang/IllegalStateException" ["java/lang/RuntimeException", "java/lang/Exception"]).filter goodWord)
def wsX3_boat_r1 : List Cond := [Cond.classLink RX3 30 "java/lang/IndexOutOfBoundsException", Cond.initialized "java/lang/IndexOutOfBoundsException", Cond.fieldLink RX3 19 "CoracleRace" "fleet" "LCoracleRace$Fleet;", Cond.fieldLink RX3 96 "CoracleRace$Fleet" "boats" "[LCoracleRace$Boat;", Cond.methodLink RX3 83 yX1_has, Cond.instanceMethod yX1_has, Cond.selects RX1 yX1_has yX1_has, Cond.initialized RX1, Cond.code yX1_has cX1_has 2 (some .boolean), Cond.fieldLink RX1 15 "CoracleRace$Fleet" "size" "I", Cond.methodLink RX3 118 yX0_fact, Cond.instanceMethod yX0_fact, Cond.selects RX0 yX0_fact yX0_fact, Cond.initialized RX0, Cond.code yX0_fact cX0_fact 2 (some .int), Cond.fieldLink RX0 20 "CoracleRace$Boat" "place" "I", Cond.fieldLink RX0 23 "CoracleRace$Boat" "lane" "I", Cond.fieldLink RX0 26 "CoracleRace$Boat" "heading" "I", Cond.fieldLink RX0 29 "CoracleRace$Boat" "soaked" "I", Cond.fieldLink RX0 32 "CoracleRace$Boat" "fouls" "I", Cond.fieldLink RX0 35 "CoracleRace$Boat" "in" "Z", Cond.fieldLink RX0 42 "CoracleRace$Boat" "spins" "I", Cond.fieldLink RX0 45 "CoracleRace$Boat" "stops" "I", Cond.methodLink RX0 58 yX0_time]
def wsX3_boat_r2 : List Cond := [Cond.instanceMethod yX0_time, Cond.selects RX0 yX0_time yX0_time, Cond.code yX0_time cX0_time 1 (some .int), Cond.fieldLink RX0 39 "CoracleRace$Boat" "tickIn" "I"]
def wsX3_boat : List Cond := .code yX3_boat cX3_boat 3 (some .int) :: ((wsX3_boat_r1 ++ wsX3_boat_r2) ++ wsX30 ++ wsX10 ++ wsX00 ++ (vx_atS RX3 34 "java/lang/IndexOutOfBoundsException" ["java/lang/RuntimeException", "java/lang/Exception"]).filter goodWord)
def wsX3_countIn_r1 : List Cond := [Cond.fieldLink RX3 150 "CoracleRace$Fleet" "tick" "I", Cond.fieldLink RX3 74 "CoracleRace$Fleet" "size" "I", Cond.fieldLink RX3 10 "CoracleRace" "river" "LCoracleRace$River;", Cond.fieldLink RX3 50 "CoracleRace$River" "weirs" "I", Cond.methodLink RX3 139 yX1_boatsIn, Cond.instanceMethod yX1_boatsIn, Cond.selects RX1 yX1_boatsIn yX1_boatsIn, Cond.initialized RX1, Cond.code yX1_boatsIn cX1_boatsIn 3 (some .int), Cond.fieldLink RX1 15 "CoracleRace$Fleet" "size" "I", Cond.fieldLink RX1 11 "CoracleRace$Fleet" "boats" "[LCoracleRace$Boat;", Cond.methodLink RX1 35 yX0_isIn, Cond.instanceMethod yX0_isIn, Cond.selects RX0 yX0_isIn yX0_isIn, Cond.initialized RX0, Cond.code yX0_isIn cX0_isIn 1 (some .boolean), Cond.fieldLink RX0 35 "CoracleRace$Boat" "in" "Z", Cond.methodLink RX3 187 yX1_foulsAdded, Cond.instanceMethod yX1_foulsAdded, Cond.selects RX1 yX1_foulsAdded yX1_foulsAdded, Cond.code yX1_foulsAdded cX1_foulsAdded 3 (some .int), Cond.fieldLink RX1 39 "CoracleRace$Boat" "fouls" "I", Cond.methodLink RX3 190 yX1_leader, Cond.instanceMethod yX1_leader]
def wsX3_countIn_r2 : List Cond := [Cond.selects RX1 yX1_leader yX1_leader, Cond.code yX1_leader cX1_leader 4 (some .int), Cond.fieldLink RX1 42 "CoracleRace$Boat" "place" "I", Cond.methodLink RX3 193 yX1_winner, Cond.instanceMethod yX1_winner, Cond.selects RX1 yX1_winner yX1_winner, Cond.code yX1_winner cX1_winner 4 (some .int), Cond.methodLink RX1 45 yX0_time, Cond.instanceMethod yX0_time, Cond.selects RX0 yX0_time yX0_time, Cond.code yX0_time cX0_time 1 (some .int), Cond.fieldLink RX0 39 "CoracleRace$Boat" "tickIn" "I", Cond.fieldLink RX0 32 "CoracleRace$Boat" "fouls" "I"]
def wsX3_countIn : List Cond := .code yX3_countIn cX3_countIn 3 (some .int) :: ((wsX3_countIn_r1 ++ wsX3_countIn_r2) ++ wsX10 ++ wsX30 ++ wsX20 ++ wsX00)
def wsX3_count_r1 : List Cond := [Cond.classLink RX3 30 "java/lang/IndexOutOfBoundsException", Cond.initialized "java/lang/IndexOutOfBoundsException", Cond.fieldLink RX3 19 "CoracleRace" "fleet" "LCoracleRace$Fleet;", Cond.methodLink RX3 124 yX3_countIn, Cond.instanceMethod yX3_countIn, Cond.selects RX3 yX3_countIn yX3_countIn, Cond.initialized RX3, Cond.code yX3_countIn cX3_countIn 3 (some .int), Cond.fieldLink RX3 150 "CoracleRace$Fleet" "tick" "I", Cond.fieldLink RX3 74 "CoracleRace$Fleet" "size" "I", Cond.fieldLink RX3 10 "CoracleRace" "river" "LCoracleRace$River;", Cond.fieldLink RX3 50 "CoracleRace$River" "weirs" "I", Cond.methodLink RX3 139 yX1_boatsIn, Cond.instanceMethod yX1_boatsIn, Cond.selects RX1 yX1_boatsIn yX1_boatsIn, Cond.initialized RX1, Cond.code yX1_boatsIn cX1_boatsIn 3 (some .int), Cond.fieldLink RX1 15 "CoracleRace$Fleet" "size" "I", Cond.fieldLink RX1 11 "CoracleRace$Fleet" "boats" "[LCoracleRace$Boat;", Cond.methodLink RX1 35 yX0_isIn, Cond.instanceMethod yX0_isIn, Cond.selects RX0 yX0_isIn yX0_isIn, Cond.initialized RX0, Cond.code yX0_isIn cX0_isIn 1 (some .boolean)]
def wsX3_count_r2 : List Cond := [Cond.fieldLink RX0 35 "CoracleRace$Boat" "in" "Z", Cond.methodLink RX3 187 yX1_foulsAdded, Cond.instanceMethod yX1_foulsAdded, Cond.selects RX1 yX1_foulsAdded yX1_foulsAdded, Cond.code yX1_foulsAdded cX1_foulsAdded 3 (some .int), Cond.fieldLink RX1 39 "CoracleRace$Boat" "fouls" "I", Cond.methodLink RX3 190 yX1_leader, Cond.instanceMethod yX1_leader, Cond.selects RX1 yX1_leader yX1_leader, Cond.code yX1_leader cX1_leader 4 (some .int), Cond.fieldLink RX1 42 "CoracleRace$Boat" "place" "I", Cond.methodLink RX3 193 yX1_winner, Cond.instanceMethod yX1_winner, Cond.selects RX1 yX1_winner yX1_winner, Cond.code yX1_winner cX1_winner 4 (some .int), Cond.methodLink RX1 45 yX0_time, Cond.instanceMethod yX0_time, Cond.selects RX0 yX0_time yX0_time, Cond.code yX0_time cX0_time 1 (some .int), Cond.fieldLink RX0 39 "CoracleRace$Boat" "tickIn" "I", Cond.fieldLink RX0 32 "CoracleRace$Boat" "fouls" "I"]
def wsX3_count : List Cond := .code yX3_count cX3_count 2 (some .int) :: ((wsX3_count_r1 ++ wsX3_count_r2) ++ wsX30 ++ wsX10 ++ wsX20 ++ wsX00 ++ (vx_atS RX3 34 "java/lang/IndexOutOfBoundsException" ["java/lang/RuntimeException", "java/lang/Exception"]).filter goodWord)
def wsX3_rank_r1 : List Cond := [Cond.classLink RX3 30 "java/lang/IndexOutOfBoundsException", Cond.initialized "java/lang/IndexOutOfBoundsException", Cond.fieldLink RX3 19 "CoracleRace" "fleet" "LCoracleRace$Fleet;", Cond.fieldLink RX3 96 "CoracleRace$Fleet" "boats" "[LCoracleRace$Boat;", Cond.methodLink RX3 83 yX1_has, Cond.instanceMethod yX1_has, Cond.selects RX1 yX1_has yX1_has, Cond.initialized RX1, Cond.code yX1_has cX1_has 2 (some .boolean), Cond.fieldLink RX1 15 "CoracleRace$Fleet" "size" "I", Cond.methodLink RX3 133 yX1_rankOf, Cond.instanceMethod yX1_rankOf, Cond.selects RX1 yX1_rankOf yX1_rankOf, Cond.code yX1_rankOf cX1_rankOf 4 (some .int), Cond.fieldLink RX1 11 "CoracleRace$Fleet" "boats" "[LCoracleRace$Boat;", Cond.methodLink RX1 49 yX0_isAheadOf, Cond.instanceMethod yX0_isAheadOf, Cond.selects RX0 yX0_isAheadOf yX0_isAheadOf, Cond.initialized RX0, Cond.code yX0_isAheadOf cX0_isAheadOf 2 (some .boolean), Cond.fieldLink RX0 35 "CoracleRace$Boat" "in" "Z", Cond.fieldLink RX0 20 "CoracleRace$Boat" "place" "I", Cond.methodLink RX0 58 yX0_time, Cond.instanceMethod yX0_time]
def wsX3_rank_r2 : List Cond := [Cond.selects RX0 yX0_time yX0_time, Cond.code yX0_time cX0_time 1 (some .int), Cond.fieldLink RX0 39 "CoracleRace$Boat" "tickIn" "I", Cond.fieldLink RX0 32 "CoracleRace$Boat" "fouls" "I"]
def wsX3_rank : List Cond := .code yX3_rank cX3_rank 2 (some .int) :: ((wsX3_rank_r1 ++ wsX3_rank_r2) ++ wsX30 ++ wsX10 ++ wsX00 ++ (vx_atS RX3 34 "java/lang/IndexOutOfBoundsException" ["java/lang/RuntimeException", "java/lang/Exception"]).filter goodWord)
def wsX3_go_r1 : List Cond := [Cond.classLink RX3 37 "java/lang/IllegalArgumentException", Cond.initialized "java/lang/IllegalArgumentException", Cond.fieldLink RX3 19 "CoracleRace" "fleet" "LCoracleRace$Fleet;", Cond.fieldLink RX3 10 "CoracleRace" "river" "LCoracleRace$River;", Cond.methodLink RX3 139 yX1_boatsIn, Cond.instanceMethod yX1_boatsIn, Cond.selects RX1 yX1_boatsIn yX1_boatsIn, Cond.initialized RX1, Cond.code yX1_boatsIn cX1_boatsIn 3 (some .int), Cond.fieldLink RX1 15 "CoracleRace$Fleet" "size" "I", Cond.fieldLink RX1 11 "CoracleRace$Fleet" "boats" "[LCoracleRace$Boat;", Cond.methodLink RX1 35 yX0_isIn, Cond.instanceMethod yX0_isIn, Cond.selects RX0 yX0_isIn yX0_isIn, Cond.initialized RX0, Cond.code yX0_isIn cX0_isIn 1 (some .boolean), Cond.fieldLink RX0 35 "CoracleRace$Boat" "in" "Z", Cond.methodLink RX3 142 yX1_letTicksGoBy, Cond.instanceMethod yX1_letTicksGoBy, Cond.selects RX1 yX1_letTicksGoBy yX1_letTicksGoBy, Cond.code yX1_letTicksGoBy cX1_letTicksGoBy 5 none, Cond.fieldLink RX1 19 "CoracleRace$Fleet" "tick" "I", Cond.methodLink RX1 31 yX0_letTickGoBy, Cond.instanceMethod yX0_letTickGoBy]
def wsX3_go_r2 : List Cond := [Cond.selects RX0 yX0_letTickGoBy yX0_letTickGoBy, Cond.code yX0_letTickGoBy cX0_letTickGoBy 4 none, Cond.fieldLink RX0 20 "CoracleRace$Boat" "place" "I", Cond.fieldLink RX0 39 "CoracleRace$Boat" "tickIn" "I", Cond.methodLink RX0 62 yX0_strokeIn, Cond.instanceMethod yX0_strokeIn, Cond.selects RX0 yX0_strokeIn yX0_strokeIn, Cond.code yX0_strokeIn cX0_strokeIn 2 (some .int), Cond.fieldLink RX0 13 "CoracleRace$Boat" "length" "I", Cond.fieldLink RX0 9 "CoracleRace$Boat" "strokes" "[I", Cond.methodLink RX0 82 yJ9_floorMod_7cf53, Cond.static yJ9_floorMod_7cf53, Cond.initialized RJ9, Cond.code yJ9_floorMod_7cf53 cJ9_floorMod_7cf53 3 (some .int), Cond.methodLink RX0 66 yX0_forceOf, Cond.instanceMethod yX0_forceOf, Cond.selects RX0 yX0_forceOf yX0_forceOf, Cond.code yX0_forceOf cX0_forceOf 2 (some .int), Cond.fieldLink RX0 26 "CoracleRace$Boat" "heading" "I", Cond.fieldLink RX0 42 "CoracleRace$Boat" "spins" "I", Cond.fieldLink RX0 29 "CoracleRace$Boat" "soaked" "I", Cond.methodLink RX0 91 Lib.Math.max.name, Cond.static Lib.Math.max.name, Cond.initialized "java/lang/Math"]
def wsX3_go_r3 : List Cond := [Cond.code Lib.Math.max.name Lib.Math.max.code 2 (some .int), Cond.methodLink RX0 88 yX0_pushOf, Cond.instanceMethod yX0_pushOf, Cond.selects RX0 yX0_pushOf yX0_pushOf, Cond.code yX0_pushOf cX0_pushOf 2 (some .int), Cond.fieldLink RX0 17 "CoracleRace$Boat" "strength" "I", Cond.methodLink RX0 69 yX0_drift, Cond.instanceMethod yX0_drift, Cond.selects RX0 yX0_drift yX0_drift, Cond.code yX0_drift cX0_drift 2 none, Cond.fieldLink RX0 23 "CoracleRace$Boat" "lane" "I", Cond.fieldLink RX0 32 "CoracleRace$Boat" "fouls" "I", Cond.methodLink RX0 94 yX2_isLane, Cond.static yX2_isLane, Cond.initialized RX2, Cond.code yX2_isLane cX2_isLane 1 (some .boolean), Cond.methodLink RX0 72 yX0_advance, Cond.instanceMethod yX0_advance, Cond.selects RX0 yX0_advance yX0_advance, Cond.code yX0_advance cX0_advance 5 none, Cond.methodLink RX0 98 Lib.Math.abs.name, Cond.static Lib.Math.abs.name, Cond.code Lib.Math.abs.name Lib.Math.abs.code 1 (some .int), Cond.fieldLink RX0 101 "CoracleRace$River" "water" "[I"]
def wsX3_go_r4 : List Cond := [Cond.methodLink RX0 108 Lib.Math.min.name, Cond.static Lib.Math.min.name, Cond.code Lib.Math.min.name Lib.Math.min.code 2 (some .int), Cond.fieldLink RX0 45 "CoracleRace$Boat" "stops" "I", Cond.methodLink RX0 104 yX2_firstStop, Cond.instanceMethod yX2_firstStop, Cond.selects RX2 yX2_firstStop yX2_firstStop, Cond.code yX2_firstStop cX2_firstStop 7 (some .int), Cond.fieldLink RX2 19 "CoracleRace$River" "weirs" "I", Cond.fieldLink RX2 13 "CoracleRace$River" "places" "[I", Cond.fieldLink RX2 16 "CoracleRace$River" "gaps" "[I", Cond.methodLink RX0 76 yX0_soak, Cond.instanceMethod yX0_soak, Cond.selects RX0 yX0_soak yX0_soak, Cond.code yX0_soak cX0_soak 2 none]
def wsX3_go : List Cond := .code yX3_go cX3_go 3 (some .int) :: ((wsX3_go_r1 ++ (wsX3_go_r2 ++ (wsX3_go_r3 ++ wsX3_go_r4))) ++ wsX30 ++ wsX10 ++ wsX00 ++ wsX20 ++ (vx_atS RX3 41 "java/lang/IllegalArgumentException" ["java/lang/RuntimeException", "java/lang/Exception"]).filter goodWord)
def wsX3_arrives_r1 : List Cond := [Cond.classLink RX3 30 "java/lang/IndexOutOfBoundsException", Cond.initialized "java/lang/IndexOutOfBoundsException", Cond.fieldLink RX3 19 "CoracleRace" "fleet" "LCoracleRace$Fleet;", Cond.fieldLink RX3 23 "CoracleRace" "trial" "LCoracleRace$Fleet;", Cond.fieldLink RX3 96 "CoracleRace$Fleet" "boats" "[LCoracleRace$Boat;", Cond.fieldLink RX3 10 "CoracleRace" "river" "LCoracleRace$River;", Cond.fieldLink RX3 150 "CoracleRace$Fleet" "tick" "I", Cond.methodLink RX3 83 yX1_has, Cond.instanceMethod yX1_has, Cond.selects RX1 yX1_has yX1_has, Cond.initialized RX1, Cond.code yX1_has cX1_has 2 (some .boolean), Cond.fieldLink RX1 15 "CoracleRace$Fleet" "size" "I", Cond.methodLink RX3 146 yX0_copyFrom, Cond.instanceMethod yX0_copyFrom, Cond.selects RX0 yX0_copyFrom yX0_copyFrom, Cond.initialized RX0, Cond.code yX0_copyFrom cX0_copyFrom 2 none, Cond.fieldLink RX0 9 "CoracleRace$Boat" "strokes" "[I", Cond.methodLink RX0 52 arraycopyName, Cond.native arraycopyName, Cond.static arraycopyName, Cond.initialized "java/lang/System", Cond.fieldLink RX0 13 "CoracleRace$Boat" "length" "I"]
def wsX3_arrives_r2 : List Cond := [Cond.fieldLink RX0 17 "CoracleRace$Boat" "strength" "I", Cond.fieldLink RX0 20 "CoracleRace$Boat" "place" "I", Cond.fieldLink RX0 23 "CoracleRace$Boat" "lane" "I", Cond.fieldLink RX0 26 "CoracleRace$Boat" "heading" "I", Cond.fieldLink RX0 29 "CoracleRace$Boat" "soaked" "I", Cond.fieldLink RX0 32 "CoracleRace$Boat" "fouls" "I", Cond.fieldLink RX0 35 "CoracleRace$Boat" "in" "Z", Cond.fieldLink RX0 39 "CoracleRace$Boat" "tickIn" "I", Cond.fieldLink RX0 42 "CoracleRace$Boat" "spins" "I", Cond.fieldLink RX0 45 "CoracleRace$Boat" "stops" "I", Cond.methodLink RX3 106 yX0_isIn, Cond.instanceMethod yX0_isIn, Cond.selects RX0 yX0_isIn yX0_isIn, Cond.code yX0_isIn cX0_isIn 1 (some .boolean), Cond.methodLink RX3 153 yX0_letTickGoBy, Cond.instanceMethod yX0_letTickGoBy, Cond.selects RX0 yX0_letTickGoBy yX0_letTickGoBy, Cond.code yX0_letTickGoBy cX0_letTickGoBy 4 none, Cond.methodLink RX0 62 yX0_strokeIn, Cond.instanceMethod yX0_strokeIn, Cond.selects RX0 yX0_strokeIn yX0_strokeIn, Cond.code yX0_strokeIn cX0_strokeIn 2 (some .int), Cond.methodLink RX0 82 yJ9_floorMod_7cf53, Cond.static yJ9_floorMod_7cf53]
def wsX3_arrives_r3 : List Cond := [Cond.initialized RJ9, Cond.code yJ9_floorMod_7cf53 cJ9_floorMod_7cf53 3 (some .int), Cond.methodLink RX0 66 yX0_forceOf, Cond.instanceMethod yX0_forceOf, Cond.selects RX0 yX0_forceOf yX0_forceOf, Cond.code yX0_forceOf cX0_forceOf 2 (some .int), Cond.methodLink RX0 91 Lib.Math.max.name, Cond.static Lib.Math.max.name, Cond.initialized "java/lang/Math", Cond.code Lib.Math.max.name Lib.Math.max.code 2 (some .int), Cond.methodLink RX0 88 yX0_pushOf, Cond.instanceMethod yX0_pushOf, Cond.selects RX0 yX0_pushOf yX0_pushOf, Cond.code yX0_pushOf cX0_pushOf 2 (some .int), Cond.methodLink RX0 69 yX0_drift, Cond.instanceMethod yX0_drift, Cond.selects RX0 yX0_drift yX0_drift, Cond.code yX0_drift cX0_drift 2 none, Cond.methodLink RX0 94 yX2_isLane, Cond.static yX2_isLane, Cond.initialized RX2, Cond.code yX2_isLane cX2_isLane 1 (some .boolean), Cond.methodLink RX0 72 yX0_advance, Cond.instanceMethod yX0_advance]
def wsX3_arrives_r4 : List Cond := [Cond.selects RX0 yX0_advance yX0_advance, Cond.code yX0_advance cX0_advance 5 none, Cond.methodLink RX0 98 Lib.Math.abs.name, Cond.static Lib.Math.abs.name, Cond.code Lib.Math.abs.name Lib.Math.abs.code 1 (some .int), Cond.fieldLink RX0 101 "CoracleRace$River" "water" "[I", Cond.methodLink RX0 108 Lib.Math.min.name, Cond.static Lib.Math.min.name, Cond.code Lib.Math.min.name Lib.Math.min.code 2 (some .int), Cond.methodLink RX0 104 yX2_firstStop, Cond.instanceMethod yX2_firstStop, Cond.selects RX2 yX2_firstStop yX2_firstStop, Cond.code yX2_firstStop cX2_firstStop 7 (some .int), Cond.fieldLink RX2 19 "CoracleRace$River" "weirs" "I", Cond.fieldLink RX2 13 "CoracleRace$River" "places" "[I", Cond.fieldLink RX2 16 "CoracleRace$River" "gaps" "[I", Cond.methodLink RX0 76 yX0_soak, Cond.instanceMethod yX0_soak, Cond.selects RX0 yX0_soak yX0_soak, Cond.code yX0_soak cX0_soak 2 none]
def wsX3_arrives : List Cond := .code yX3_arrives cX3_arrives 4 (some .int) :: ((wsX3_arrives_r1 ++ (wsX3_arrives_r2 ++ (wsX3_arrives_r3 ++ wsX3_arrives_r4))) ++ wsX30 ++ wsX10 ++ wsX00 ++ wsX20 ++ (vx_atS RX3 34 "java/lang/IndexOutOfBoundsException" ["java/lang/RuntimeException", "java/lang/Exception"]).filter goodWord)
def wsX3_foresee_r1 : List Cond := [Cond.classLink RX3 37 "java/lang/IllegalArgumentException", Cond.initialized "java/lang/IllegalArgumentException", Cond.classLink RX3 30 "java/lang/IndexOutOfBoundsException", Cond.initialized "java/lang/IndexOutOfBoundsException", Cond.fieldLink RX3 23 "CoracleRace" "trial" "LCoracleRace$Fleet;", Cond.fieldLink RX3 19 "CoracleRace" "fleet" "LCoracleRace$Fleet;", Cond.fieldLink RX3 10 "CoracleRace" "river" "LCoracleRace$River;", Cond.methodLink RX3 158 yX1_copyFrom, Cond.instanceMethod yX1_copyFrom, Cond.selects RX1 yX1_copyFrom yX1_copyFrom, Cond.initialized RX1, Cond.code yX1_copyFrom cX1_copyFrom 3 none, Cond.fieldLink RX1 15 "CoracleRace$Fleet" "size" "I", Cond.fieldLink RX1 19 "CoracleRace$Fleet" "tick" "I", Cond.fieldLink RX1 11 "CoracleRace$Fleet" "boats" "[LCoracleRace$Boat;", Cond.methodLink RX1 27 yX0_copyFrom, Cond.instanceMethod yX0_copyFrom, Cond.selects RX0 yX0_copyFrom yX0_copyFrom, Cond.initialized RX0, Cond.code yX0_copyFrom cX0_copyFrom 2 none, Cond.fieldLink RX0 9 "CoracleRace$Boat" "strokes" "[I", Cond.methodLink RX0 52 arraycopyName, Cond.native arraycopyName, Cond.static arraycopyName]
def wsX3_foresee_r2 : List Cond := [Cond.initialized "java/lang/System", Cond.fieldLink RX0 13 "CoracleRace$Boat" "length" "I", Cond.fieldLink RX0 17 "CoracleRace$Boat" "strength" "I", Cond.fieldLink RX0 20 "CoracleRace$Boat" "place" "I", Cond.fieldLink RX0 23 "CoracleRace$Boat" "lane" "I", Cond.fieldLink RX0 26 "CoracleRace$Boat" "heading" "I", Cond.fieldLink RX0 29 "CoracleRace$Boat" "soaked" "I", Cond.fieldLink RX0 32 "CoracleRace$Boat" "fouls" "I", Cond.fieldLink RX0 35 "CoracleRace$Boat" "in" "Z", Cond.fieldLink RX0 39 "CoracleRace$Boat" "tickIn" "I", Cond.fieldLink RX0 42 "CoracleRace$Boat" "spins" "I", Cond.fieldLink RX0 45 "CoracleRace$Boat" "stops" "I", Cond.methodLink RX3 142 yX1_letTicksGoBy, Cond.instanceMethod yX1_letTicksGoBy, Cond.selects RX1 yX1_letTicksGoBy yX1_letTicksGoBy, Cond.code yX1_letTicksGoBy cX1_letTicksGoBy 5 none, Cond.methodLink RX1 31 yX0_letTickGoBy, Cond.instanceMethod yX0_letTickGoBy, Cond.selects RX0 yX0_letTickGoBy yX0_letTickGoBy, Cond.code yX0_letTickGoBy cX0_letTickGoBy 4 none, Cond.methodLink RX0 62 yX0_strokeIn, Cond.instanceMethod yX0_strokeIn, Cond.selects RX0 yX0_strokeIn yX0_strokeIn, Cond.code yX0_strokeIn cX0_strokeIn 2 (some .int)]
def wsX3_foresee_r3 : List Cond := [Cond.methodLink RX0 82 yJ9_floorMod_7cf53, Cond.static yJ9_floorMod_7cf53, Cond.initialized RJ9, Cond.code yJ9_floorMod_7cf53 cJ9_floorMod_7cf53 3 (some .int), Cond.methodLink RX0 66 yX0_forceOf, Cond.instanceMethod yX0_forceOf, Cond.selects RX0 yX0_forceOf yX0_forceOf, Cond.code yX0_forceOf cX0_forceOf 2 (some .int), Cond.methodLink RX0 91 Lib.Math.max.name, Cond.static Lib.Math.max.name, Cond.initialized "java/lang/Math", Cond.code Lib.Math.max.name Lib.Math.max.code 2 (some .int), Cond.methodLink RX0 88 yX0_pushOf, Cond.instanceMethod yX0_pushOf, Cond.selects RX0 yX0_pushOf yX0_pushOf, Cond.code yX0_pushOf cX0_pushOf 2 (some .int), Cond.methodLink RX0 69 yX0_drift, Cond.instanceMethod yX0_drift, Cond.selects RX0 yX0_drift yX0_drift, Cond.code yX0_drift cX0_drift 2 none, Cond.methodLink RX0 94 yX2_isLane, Cond.static yX2_isLane, Cond.initialized RX2, Cond.code yX2_isLane cX2_isLane 1 (some .boolean)]
def wsX3_foresee_r4 : List Cond := [Cond.methodLink RX0 72 yX0_advance, Cond.instanceMethod yX0_advance, Cond.selects RX0 yX0_advance yX0_advance, Cond.code yX0_advance cX0_advance 5 none, Cond.methodLink RX0 98 Lib.Math.abs.name, Cond.static Lib.Math.abs.name, Cond.code Lib.Math.abs.name Lib.Math.abs.code 1 (some .int), Cond.fieldLink RX0 101 "CoracleRace$River" "water" "[I", Cond.methodLink RX0 108 Lib.Math.min.name, Cond.static Lib.Math.min.name, Cond.code Lib.Math.min.name Lib.Math.min.code 2 (some .int), Cond.methodLink RX0 104 yX2_firstStop, Cond.instanceMethod yX2_firstStop, Cond.selects RX2 yX2_firstStop yX2_firstStop, Cond.code yX2_firstStop cX2_firstStop 7 (some .int), Cond.fieldLink RX2 19 "CoracleRace$River" "weirs" "I", Cond.fieldLink RX2 13 "CoracleRace$River" "places" "[I", Cond.fieldLink RX2 16 "CoracleRace$River" "gaps" "[I", Cond.methodLink RX0 76 yX0_soak, Cond.instanceMethod yX0_soak, Cond.selects RX0 yX0_soak yX0_soak, Cond.code yX0_soak cX0_soak 2 none, Cond.methodLink RX3 124 yX3_countIn, Cond.instanceMethod yX3_countIn]
def wsX3_foresee_r5 : List Cond := [Cond.selects RX3 yX3_countIn yX3_countIn, Cond.initialized RX3, Cond.code yX3_countIn cX3_countIn 3 (some .int), Cond.fieldLink RX3 150 "CoracleRace$Fleet" "tick" "I", Cond.fieldLink RX3 74 "CoracleRace$Fleet" "size" "I", Cond.fieldLink RX3 50 "CoracleRace$River" "weirs" "I", Cond.methodLink RX3 139 yX1_boatsIn, Cond.instanceMethod yX1_boatsIn, Cond.selects RX1 yX1_boatsIn yX1_boatsIn, Cond.code yX1_boatsIn cX1_boatsIn 3 (some .int), Cond.methodLink RX1 35 yX0_isIn, Cond.instanceMethod yX0_isIn, Cond.selects RX0 yX0_isIn yX0_isIn, Cond.code yX0_isIn cX0_isIn 1 (some .boolean), Cond.methodLink RX3 187 yX1_foulsAdded, Cond.instanceMethod yX1_foulsAdded, Cond.selects RX1 yX1_foulsAdded yX1_foulsAdded, Cond.code yX1_foulsAdded cX1_foulsAdded 3 (some .int), Cond.fieldLink RX1 39 "CoracleRace$Boat" "fouls" "I", Cond.methodLink RX3 190 yX1_leader, Cond.instanceMethod yX1_leader, Cond.selects RX1 yX1_leader yX1_leader, Cond.code yX1_leader cX1_leader 4 (some .int), Cond.fieldLink RX1 42 "CoracleRace$Boat" "place" "I"]
def wsX3_foresee_r6 : List Cond := [Cond.methodLink RX3 193 yX1_winner, Cond.instanceMethod yX1_winner, Cond.selects RX1 yX1_winner yX1_winner, Cond.code yX1_winner cX1_winner 4 (some .int), Cond.methodLink RX1 45 yX0_time, Cond.instanceMethod yX0_time, Cond.selects RX0 yX0_time yX0_time, Cond.code yX0_time cX0_time 1 (some .int)]
def wsX3_foresee : List Cond := .code yX3_foresee cX3_foresee 3 (some .int) :: ((wsX3_foresee_r1 ++ (wsX3_foresee_r2 ++ (wsX3_foresee_r3 ++ (wsX3_foresee_r4 ++ (wsX3_foresee_r5 ++ wsX3_foresee_r6))))) ++ wsX30 ++ wsX10 ++ wsX00 ++ wsX20 ++ (vx_atS RX3 41 "java/lang/IllegalArgumentException" ["java/lang/RuntimeException", "java/lang/Exception"]).filter goodWord ++ (vx_atS RX3 34 "java/lang/IndexOutOfBoundsException" ["java/lang/RuntimeException", "java/lang/Exception"]).filter goodWord)
def wsX3_placeWith_r1 : List Cond := [Cond.fieldLink RX3 23 "CoracleRace" "trial" "LCoracleRace$Fleet;", Cond.fieldLink RX3 96 "CoracleRace$Fleet" "boats" "[LCoracleRace$Boat;", Cond.fieldLink RX3 19 "CoracleRace" "fleet" "LCoracleRace$Fleet;", Cond.fieldLink RX3 10 "CoracleRace" "river" "LCoracleRace$River;", Cond.fieldLink RX3 150 "CoracleRace$Fleet" "tick" "I", Cond.fieldLink RX3 196 "CoracleRace$Boat" "place" "I", Cond.methodLink RX3 146 yX0_copyFrom, Cond.instanceMethod yX0_copyFrom, Cond.selects RX0 yX0_copyFrom yX0_copyFrom, Cond.initialized RX0, Cond.code yX0_copyFrom cX0_copyFrom 2 none, Cond.fieldLink RX0 9 "CoracleRace$Boat" "strokes" "[I", Cond.methodLink RX0 52 arraycopyName, Cond.native arraycopyName, Cond.static arraycopyName, Cond.initialized "java/lang/System", Cond.fieldLink RX0 13 "CoracleRace$Boat" "length" "I", Cond.fieldLink RX0 17 "CoracleRace$Boat" "strength" "I", Cond.fieldLink RX0 20 "CoracleRace$Boat" "place" "I", Cond.fieldLink RX0 23 "CoracleRace$Boat" "lane" "I", Cond.fieldLink RX0 26 "CoracleRace$Boat" "heading" "I", Cond.fieldLink RX0 29 "CoracleRace$Boat" "soaked" "I", Cond.fieldLink RX0 32 "CoracleRace$Boat" "fouls" "I", Cond.fieldLink RX0 35 "CoracleRace$Boat" "in" "Z"]
def wsX3_placeWith_r2 : List Cond := [Cond.fieldLink RX0 39 "CoracleRace$Boat" "tickIn" "I", Cond.fieldLink RX0 42 "CoracleRace$Boat" "spins" "I", Cond.fieldLink RX0 45 "CoracleRace$Boat" "stops" "I", Cond.methodLink RX3 103 yX0_takePattern, Cond.instanceMethod yX0_takePattern, Cond.selects RX0 yX0_takePattern yX0_takePattern, Cond.code yX0_takePattern cX0_takePattern 5 none, Cond.methodLink RX3 153 yX0_letTickGoBy, Cond.instanceMethod yX0_letTickGoBy, Cond.selects RX0 yX0_letTickGoBy yX0_letTickGoBy, Cond.code yX0_letTickGoBy cX0_letTickGoBy 4 none, Cond.methodLink RX0 62 yX0_strokeIn, Cond.instanceMethod yX0_strokeIn, Cond.selects RX0 yX0_strokeIn yX0_strokeIn, Cond.code yX0_strokeIn cX0_strokeIn 2 (some .int), Cond.methodLink RX0 82 yJ9_floorMod_7cf53, Cond.static yJ9_floorMod_7cf53, Cond.initialized RJ9, Cond.code yJ9_floorMod_7cf53 cJ9_floorMod_7cf53 3 (some .int), Cond.methodLink RX0 66 yX0_forceOf, Cond.instanceMethod yX0_forceOf, Cond.selects RX0 yX0_forceOf yX0_forceOf, Cond.code yX0_forceOf cX0_forceOf 2 (some .int), Cond.methodLink RX0 91 Lib.Math.max.name]
def wsX3_placeWith_r3 : List Cond := [Cond.static Lib.Math.max.name, Cond.initialized "java/lang/Math", Cond.code Lib.Math.max.name Lib.Math.max.code 2 (some .int), Cond.methodLink RX0 88 yX0_pushOf, Cond.instanceMethod yX0_pushOf, Cond.selects RX0 yX0_pushOf yX0_pushOf, Cond.code yX0_pushOf cX0_pushOf 2 (some .int), Cond.methodLink RX0 69 yX0_drift, Cond.instanceMethod yX0_drift, Cond.selects RX0 yX0_drift yX0_drift, Cond.code yX0_drift cX0_drift 2 none, Cond.methodLink RX0 94 yX2_isLane, Cond.static yX2_isLane, Cond.initialized RX2, Cond.code yX2_isLane cX2_isLane 1 (some .boolean), Cond.methodLink RX0 72 yX0_advance, Cond.instanceMethod yX0_advance, Cond.selects RX0 yX0_advance yX0_advance, Cond.code yX0_advance cX0_advance 5 none, Cond.methodLink RX0 98 Lib.Math.abs.name, Cond.static Lib.Math.abs.name, Cond.code Lib.Math.abs.name Lib.Math.abs.code 1 (some .int), Cond.fieldLink RX0 101 "CoracleRace$River" "water" "[I", Cond.methodLink RX0 108 Lib.Math.min.name]
def wsX3_placeWith_r4 : List Cond := [Cond.static Lib.Math.min.name, Cond.code Lib.Math.min.name Lib.Math.min.code 2 (some .int), Cond.methodLink RX0 104 yX2_firstStop, Cond.instanceMethod yX2_firstStop, Cond.selects RX2 yX2_firstStop yX2_firstStop, Cond.code yX2_firstStop cX2_firstStop 7 (some .int), Cond.fieldLink RX2 19 "CoracleRace$River" "weirs" "I", Cond.fieldLink RX2 13 "CoracleRace$River" "places" "[I", Cond.fieldLink RX2 16 "CoracleRace$River" "gaps" "[I", Cond.methodLink RX0 76 yX0_soak, Cond.instanceMethod yX0_soak, Cond.selects RX0 yX0_soak yX0_soak, Cond.code yX0_soak cX0_soak 2 none]
def wsX3_placeWith : List Cond := .code yX3_placeWith cX3_placeWith 6 (some .int) :: ((wsX3_placeWith_r1 ++ (wsX3_placeWith_r2 ++ (wsX3_placeWith_r3 ++ wsX3_placeWith_r4))) ++ wsX30 ++ wsX10 ++ wsX00 ++ wsX20)
def wsX3_advise_r1 : List Cond := [Cond.classLink RX3 30 "java/lang/IndexOutOfBoundsException", Cond.initialized "java/lang/IndexOutOfBoundsException", Cond.classLink RX3 37 "java/lang/IllegalArgumentException", Cond.initialized "java/lang/IllegalArgumentException", Cond.fieldLink RX3 19 "CoracleRace" "fleet" "LCoracleRace$Fleet;", Cond.methodLink RX3 83 yX1_has, Cond.instanceMethod yX1_has, Cond.selects RX1 yX1_has yX1_has, Cond.initialized RX1, Cond.code yX1_has cX1_has 2 (some .boolean), Cond.fieldLink RX1 15 "CoracleRace$Fleet" "size" "I", Cond.methodLink RX3 163 yX3_placeWith, Cond.instanceMethod yX3_placeWith, Cond.selects RX3 yX3_placeWith yX3_placeWith, Cond.initialized RX3, Cond.code yX3_placeWith cX3_placeWith 6 (some .int), Cond.fieldLink RX3 23 "CoracleRace" "trial" "LCoracleRace$Fleet;", Cond.fieldLink RX3 96 "CoracleRace$Fleet" "boats" "[LCoracleRace$Boat;", Cond.fieldLink RX3 10 "CoracleRace" "river" "LCoracleRace$River;", Cond.fieldLink RX3 150 "CoracleRace$Fleet" "tick" "I", Cond.fieldLink RX3 196 "CoracleRace$Boat" "place" "I", Cond.methodLink RX3 146 yX0_copyFrom, Cond.instanceMethod yX0_copyFrom, Cond.selects RX0 yX0_copyFrom yX0_copyFrom]
def wsX3_advise_r2 : List Cond := [Cond.initialized RX0, Cond.code yX0_copyFrom cX0_copyFrom 2 none, Cond.fieldLink RX0 9 "CoracleRace$Boat" "strokes" "[I", Cond.methodLink RX0 52 arraycopyName, Cond.native arraycopyName, Cond.static arraycopyName, Cond.initialized "java/lang/System", Cond.fieldLink RX0 13 "CoracleRace$Boat" "length" "I", Cond.fieldLink RX0 17 "CoracleRace$Boat" "strength" "I", Cond.fieldLink RX0 20 "CoracleRace$Boat" "place" "I", Cond.fieldLink RX0 23 "CoracleRace$Boat" "lane" "I", Cond.fieldLink RX0 26 "CoracleRace$Boat" "heading" "I", Cond.fieldLink RX0 29 "CoracleRace$Boat" "soaked" "I", Cond.fieldLink RX0 32 "CoracleRace$Boat" "fouls" "I", Cond.fieldLink RX0 35 "CoracleRace$Boat" "in" "Z", Cond.fieldLink RX0 39 "CoracleRace$Boat" "tickIn" "I", Cond.fieldLink RX0 42 "CoracleRace$Boat" "spins" "I", Cond.fieldLink RX0 45 "CoracleRace$Boat" "stops" "I", Cond.methodLink RX3 103 yX0_takePattern, Cond.instanceMethod yX0_takePattern, Cond.selects RX0 yX0_takePattern yX0_takePattern, Cond.code yX0_takePattern cX0_takePattern 5 none, Cond.methodLink RX3 153 yX0_letTickGoBy, Cond.instanceMethod yX0_letTickGoBy]
def wsX3_advise_r3 : List Cond := [Cond.selects RX0 yX0_letTickGoBy yX0_letTickGoBy, Cond.code yX0_letTickGoBy cX0_letTickGoBy 4 none, Cond.methodLink RX0 62 yX0_strokeIn, Cond.instanceMethod yX0_strokeIn, Cond.selects RX0 yX0_strokeIn yX0_strokeIn, Cond.code yX0_strokeIn cX0_strokeIn 2 (some .int), Cond.methodLink RX0 82 yJ9_floorMod_7cf53, Cond.static yJ9_floorMod_7cf53, Cond.initialized RJ9, Cond.code yJ9_floorMod_7cf53 cJ9_floorMod_7cf53 3 (some .int), Cond.methodLink RX0 66 yX0_forceOf, Cond.instanceMethod yX0_forceOf, Cond.selects RX0 yX0_forceOf yX0_forceOf, Cond.code yX0_forceOf cX0_forceOf 2 (some .int), Cond.methodLink RX0 91 Lib.Math.max.name, Cond.static Lib.Math.max.name, Cond.initialized "java/lang/Math", Cond.code Lib.Math.max.name Lib.Math.max.code 2 (some .int), Cond.methodLink RX0 88 yX0_pushOf, Cond.instanceMethod yX0_pushOf, Cond.selects RX0 yX0_pushOf yX0_pushOf, Cond.code yX0_pushOf cX0_pushOf 2 (some .int), Cond.methodLink RX0 69 yX0_drift, Cond.instanceMethod yX0_drift]
def wsX3_advise_r4 : List Cond := [Cond.selects RX0 yX0_drift yX0_drift, Cond.code yX0_drift cX0_drift 2 none, Cond.methodLink RX0 94 yX2_isLane, Cond.static yX2_isLane, Cond.initialized RX2, Cond.code yX2_isLane cX2_isLane 1 (some .boolean), Cond.methodLink RX0 72 yX0_advance, Cond.instanceMethod yX0_advance, Cond.selects RX0 yX0_advance yX0_advance, Cond.code yX0_advance cX0_advance 5 none, Cond.methodLink RX0 98 Lib.Math.abs.name, Cond.static Lib.Math.abs.name, Cond.code Lib.Math.abs.name Lib.Math.abs.code 1 (some .int), Cond.fieldLink RX0 101 "CoracleRace$River" "water" "[I", Cond.methodLink RX0 108 Lib.Math.min.name, Cond.static Lib.Math.min.name, Cond.code Lib.Math.min.name Lib.Math.min.code 2 (some .int), Cond.methodLink RX0 104 yX2_firstStop, Cond.instanceMethod yX2_firstStop, Cond.selects RX2 yX2_firstStop yX2_firstStop, Cond.code yX2_firstStop cX2_firstStop 7 (some .int), Cond.fieldLink RX2 19 "CoracleRace$River" "weirs" "I", Cond.fieldLink RX2 13 "CoracleRace$River" "places" "[I", Cond.fieldLink RX2 16 "CoracleRace$River" "gaps" "[I"]
def wsX3_advise_r5 : List Cond := [Cond.methodLink RX0 76 yX0_soak, Cond.instanceMethod yX0_soak, Cond.selects RX0 yX0_soak yX0_soak, Cond.code yX0_soak cX0_soak 2 none]
def wsX3_advise : List Cond := .code yX3_advise cX3_advise 9 (some .int) :: ((wsX3_advise_r1 ++ (wsX3_advise_r2 ++ (wsX3_advise_r3 ++ (wsX3_advise_r4 ++ wsX3_advise_r5)))) ++ wsX30 ++ wsX10 ++ wsX00 ++ wsX20 ++ (vx_atS RX3 34 "java/lang/IndexOutOfBoundsException" ["java/lang/RuntimeException", "java/lang/Exception"]).filter goodWord ++ (vx_atS RX3 41 "java/lang/IllegalArgumentException" ["java/lang/RuntimeException", "java/lang/Exception"]).filter goodWord)
def wsX3_mean : List Cond := .code yX3_mean cX3_mean 1 (some .double) :: ([.fieldLink RX3 19 "CoracleRace" "fleet" "LCoracleRace$Fleet;", .fieldLink RX3 74 "CoracleRace$Fleet" "size" "I", .methodLink RX3 167 yX1_placesAdded, .instanceMethod yX1_placesAdded, .selects RX1 yX1_placesAdded yX1_placesAdded, .initialized RX1, .code yX1_placesAdded cX1_placesAdded 3 (some .int), .fieldLink RX1 15 "CoracleRace$Fleet" "size" "I", .fieldLink RX1 11 "CoracleRace$Fleet" "boats" "[LCoracleRace$Boat;", .fieldLink RX1 42 "CoracleRace$Boat" "place" "I"] ++ wsX30 ++ wsX10 ++ wsX00)
def wsX3_digestWith_r1 : List Cond := [Cond.constantLong RX3 172 (31), Cond.fieldLink RX3 100 "CoracleRace$Boat" "length" "I", Cond.fieldLink RX3 184 "CoracleRace$Boat" "strokes" "[I", Cond.fieldLink RX3 19 "CoracleRace" "fleet" "LCoracleRace$Fleet;", Cond.methodLink RX3 118 yX0_fact, Cond.instanceMethod yX0_fact, Cond.selects RX0 yX0_fact yX0_fact, Cond.initialized RX0, Cond.code yX0_fact cX0_fact 2 (some .int), Cond.fieldLink RX0 20 "CoracleRace$Boat" "place" "I", Cond.fieldLink RX0 23 "CoracleRace$Boat" "lane" "I", Cond.fieldLink RX0 26 "CoracleRace$Boat" "heading" "I", Cond.fieldLink RX0 29 "CoracleRace$Boat" "soaked" "I", Cond.fieldLink RX0 32 "CoracleRace$Boat" "fouls" "I", Cond.fieldLink RX0 35 "CoracleRace$Boat" "in" "Z", Cond.fieldLink RX0 42 "CoracleRace$Boat" "spins" "I", Cond.fieldLink RX0 45 "CoracleRace$Boat" "stops" "I", Cond.methodLink RX0 58 yX0_time, Cond.instanceMethod yX0_time, Cond.selects RX0 yX0_time yX0_time, Cond.code yX0_time cX0_time 1 (some .int), Cond.fieldLink RX0 39 "CoracleRace$Boat" "tickIn" "I", Cond.methodLink RX3 133 yX1_rankOf, Cond.instanceMethod yX1_rankOf]
def wsX3_digestWith_r2 : List Cond := [Cond.selects RX1 yX1_rankOf yX1_rankOf, Cond.initialized RX1, Cond.code yX1_rankOf cX1_rankOf 4 (some .int), Cond.fieldLink RX1 15 "CoracleRace$Fleet" "size" "I", Cond.fieldLink RX1 11 "CoracleRace$Fleet" "boats" "[LCoracleRace$Boat;", Cond.methodLink RX1 49 yX0_isAheadOf, Cond.instanceMethod yX0_isAheadOf, Cond.selects RX0 yX0_isAheadOf yX0_isAheadOf, Cond.code yX0_isAheadOf cX0_isAheadOf 2 (some .boolean)]
def wsX3_digestWith : List Cond := .code yX3_digestWith cX3_digestWith 7 (some .long) :: ((wsX3_digestWith_r1 ++ wsX3_digestWith_r2) ++ wsX00 ++ wsX30 ++ wsX10)
def wsX3_digest_r1 : List Cond := [Cond.constantLong RX3 170 (1163), Cond.constantLong RX3 172 (31), Cond.fieldLink RX3 19 "CoracleRace" "fleet" "LCoracleRace$Fleet;", Cond.fieldLink RX3 10 "CoracleRace" "river" "LCoracleRace$River;", Cond.fieldLink RX3 42 "CoracleRace$River" "water" "[I", Cond.fieldLink RX3 50 "CoracleRace$River" "weirs" "I", Cond.fieldLink RX3 174 "CoracleRace$River" "places" "[I", Cond.fieldLink RX3 177 "CoracleRace$River" "gaps" "[I", Cond.fieldLink RX3 74 "CoracleRace$Fleet" "size" "I", Cond.fieldLink RX3 96 "CoracleRace$Fleet" "boats" "[LCoracleRace$Boat;", Cond.methodLink RX3 124 yX3_countIn, Cond.instanceMethod yX3_countIn, Cond.selects RX3 yX3_countIn yX3_countIn, Cond.initialized RX3, Cond.code yX3_countIn cX3_countIn 3 (some .int), Cond.fieldLink RX3 150 "CoracleRace$Fleet" "tick" "I", Cond.methodLink RX3 139 yX1_boatsIn, Cond.instanceMethod yX1_boatsIn, Cond.selects RX1 yX1_boatsIn yX1_boatsIn, Cond.initialized RX1, Cond.code yX1_boatsIn cX1_boatsIn 3 (some .int), Cond.fieldLink RX1 15 "CoracleRace$Fleet" "size" "I", Cond.fieldLink RX1 11 "CoracleRace$Fleet" "boats" "[LCoracleRace$Boat;", Cond.methodLink RX1 35 yX0_isIn]
def wsX3_digest_r2 : List Cond := [Cond.instanceMethod yX0_isIn, Cond.selects RX0 yX0_isIn yX0_isIn, Cond.initialized RX0, Cond.code yX0_isIn cX0_isIn 1 (some .boolean), Cond.fieldLink RX0 35 "CoracleRace$Boat" "in" "Z", Cond.methodLink RX3 187 yX1_foulsAdded, Cond.instanceMethod yX1_foulsAdded, Cond.selects RX1 yX1_foulsAdded yX1_foulsAdded, Cond.code yX1_foulsAdded cX1_foulsAdded 3 (some .int), Cond.fieldLink RX1 39 "CoracleRace$Boat" "fouls" "I", Cond.methodLink RX3 190 yX1_leader, Cond.instanceMethod yX1_leader, Cond.selects RX1 yX1_leader yX1_leader, Cond.code yX1_leader cX1_leader 4 (some .int), Cond.fieldLink RX1 42 "CoracleRace$Boat" "place" "I", Cond.methodLink RX3 193 yX1_winner, Cond.instanceMethod yX1_winner, Cond.selects RX1 yX1_winner yX1_winner, Cond.code yX1_winner cX1_winner 4 (some .int), Cond.methodLink RX1 45 yX0_time, Cond.instanceMethod yX0_time, Cond.selects RX0 yX0_time yX0_time, Cond.code yX0_time cX0_time 1 (some .int), Cond.fieldLink RX0 39 "CoracleRace$Boat" "tickIn" "I"]
def wsX3_digest_r3 : List Cond := [Cond.fieldLink RX0 32 "CoracleRace$Boat" "fouls" "I", Cond.methodLink RX3 180 yX3_digestWith, Cond.instanceMethod yX3_digestWith, Cond.selects RX3 yX3_digestWith yX3_digestWith, Cond.code yX3_digestWith cX3_digestWith 7 (some .long), Cond.fieldLink RX3 100 "CoracleRace$Boat" "length" "I", Cond.fieldLink RX3 184 "CoracleRace$Boat" "strokes" "[I", Cond.methodLink RX3 118 yX0_fact, Cond.instanceMethod yX0_fact, Cond.selects RX0 yX0_fact yX0_fact, Cond.code yX0_fact cX0_fact 2 (some .int), Cond.fieldLink RX0 20 "CoracleRace$Boat" "place" "I", Cond.fieldLink RX0 23 "CoracleRace$Boat" "lane" "I", Cond.fieldLink RX0 26 "CoracleRace$Boat" "heading" "I", Cond.fieldLink RX0 29 "CoracleRace$Boat" "soaked" "I", Cond.fieldLink RX0 42 "CoracleRace$Boat" "spins" "I", Cond.fieldLink RX0 45 "CoracleRace$Boat" "stops" "I", Cond.methodLink RX0 58 yX0_time, Cond.methodLink RX3 133 yX1_rankOf, Cond.instanceMethod yX1_rankOf, Cond.selects RX1 yX1_rankOf yX1_rankOf, Cond.code yX1_rankOf cX1_rankOf 4 (some .int), Cond.methodLink RX1 49 yX0_isAheadOf, Cond.instanceMethod yX0_isAheadOf]
def wsX3_digest_r4 : List Cond := [Cond.selects RX0 yX0_isAheadOf yX0_isAheadOf, Cond.code yX0_isAheadOf cX0_isAheadOf 2 (some .boolean)]
def wsX3_digest : List Cond := .code yX3_digest cX3_digest 4 (some .long) :: ((wsX3_digest_r1 ++ (wsX3_digest_r2 ++ (wsX3_digest_r3 ++ wsX3_digest_r4))) ++ wsX30 ++ wsX20 ++ wsX10 ++ wsX00)
def wsJ7_fill_53178 : List Cond := .code yJ7_fill_53178 cJ7_fill_53178 4 none :: ([])
def wsX4_init : List Cond := .code yX4_init cX4_init 1 none :: ([.methodLink RX4 1 objectInit, .instanceMethod objectInit, .code objectInit ⟨#[0xb1]⟩ 1 none, .arrayClass .int, .fieldLink RX4 7 "CoracleRaceLaw$Sim" "water" "[I", .fieldLink RX4 13 "CoracleRaceLaw$Sim" "weirs" "[I", .classLink RX4 16 "[I", .fieldLink RX4 17 "CoracleRaceLaw$Sim" "boats" "[[I", .fieldLink RX4 21 "CoracleRaceLaw$Sim" "strokes" "[[I", .methodLink RX4 24 yJ7_fill_53178, .static yJ7_fill_53178, .initialized RJ7, .code yJ7_fill_53178 cJ7_fill_53178 4 none] ++ wsX40)
def wsX4_more : List Cond := .code yX4_more cX4_more 4 (some (.array (.array .int))) :: ([.classLink RX4 16 "[I"])
def wsX4_go : List Cond := .code yX4_go cX4_go 6 none :: ([.fieldLink RX4 17 "CoracleRaceLaw$Sim" "boats" "[[I", .fieldLink RX4 21 "CoracleRaceLaw$Sim" "strokes" "[[I", .fieldLink RX4 30 "CoracleRaceLaw$Sim" "tick" "I", .methodLink RX4 34 Lib.Math.abs.name, .static Lib.Math.abs.name, .initialized "java/lang/Math", .code Lib.Math.abs.name Lib.Math.abs.code 1 (some .int), .fieldLink RX4 7 "CoracleRaceLaw$Sim" "water" "[I", .fieldLink RX4 13 "CoracleRaceLaw$Sim" "weirs" "[I", .methodLink RX4 40 Lib.Math.min.name, .static Lib.Math.min.name, .code Lib.Math.min.name Lib.Math.min.code 2 (some .int)] ++ wsX40)
def wsX4_go_ : List Cond := .code yX4_go_ cX4_go_ 3 (some .int) :: ([.fieldLink RX4 17 "CoracleRaceLaw$Sim" "boats" "[[I", .fieldLink RX4 30 "CoracleRaceLaw$Sim" "tick" "I", .methodLink RX4 44 yX4_go, .instanceMethod yX4_go, .selects RX4 yX4_go yX4_go, .initialized RX4, .code yX4_go cX4_go 6 none, .fieldLink RX4 21 "CoracleRaceLaw$Sim" "strokes" "[[I", .methodLink RX4 34 Lib.Math.abs.name, .static Lib.Math.abs.name, .initialized "java/lang/Math", .code Lib.Math.abs.name Lib.Math.abs.code 1 (some .int), .fieldLink RX4 7 "CoracleRaceLaw$Sim" "water" "[I", .fieldLink RX4 13 "CoracleRaceLaw$Sim" "weirs" "[I", .methodLink RX4 40 Lib.Math.min.name, .static Lib.Math.min.name, .code Lib.Math.min.name Lib.Math.min.code 2 (some .int)] ++ wsX40)
def wsX4_time : List Cond := .code yX4_time cX4_time 2 (some .int) :: ([])
def wsX4_counts : List Cond := .code yX4_counts cX4_counts 7 (some (.array .int)) :: ([.fieldLink RX4 17 "CoracleRaceLaw$Sim" "boats" "[[I", .arrayClass .int, .fieldLink RX4 30 "CoracleRaceLaw$Sim" "tick" "I", .fieldLink RX4 52 "CoracleRaceLaw$Sim" "many" "I", .methodLink RX4 48 yX4_time, .instanceMethod yX4_time, .selects RX4 yX4_time yX4_time, .initialized RX4, .code yX4_time cX4_time 2 (some .int)] ++ wsX40)
def wsX4_rank : List Cond := .code yX4_rank cX4_rank 7 (some .int) :: ([.fieldLink RX4 17 "CoracleRaceLaw$Sim" "boats" "[[I", .methodLink RX4 48 yX4_time, .instanceMethod yX4_time, .selects RX4 yX4_time yX4_time, .initialized RX4, .code yX4_time cX4_time 2 (some .int)] ++ wsX40)
def wsX4_isSame_r1 : List Cond := [Cond.fieldLink RX4 17 "CoracleRaceLaw$Sim" "boats" "[[I", Cond.arrayClass .int, Cond.methodLink RX4 48 yX4_time, Cond.instanceMethod yX4_time, Cond.selects RX4 yX4_time yX4_time, Cond.initialized RX4, Cond.code yX4_time cX4_time 2 (some .int), Cond.methodLink RX4 66 yX3_boat, Cond.instanceMethod yX3_boat, Cond.selects RX3 yX3_boat yX3_boat, Cond.initialized RX3, Cond.code yX3_boat cX3_boat 3 (some .int), Cond.classLink RX3 30 "java/lang/IndexOutOfBoundsException", Cond.initialized "java/lang/IndexOutOfBoundsException", Cond.fieldLink RX3 19 "CoracleRace" "fleet" "LCoracleRace$Fleet;", Cond.fieldLink RX3 96 "CoracleRace$Fleet" "boats" "[LCoracleRace$Boat;", Cond.methodLink RX3 83 yX1_has, Cond.instanceMethod yX1_has, Cond.selects RX1 yX1_has yX1_has, Cond.initialized RX1, Cond.code yX1_has cX1_has 2 (some .boolean), Cond.fieldLink RX1 15 "CoracleRace$Fleet" "size" "I", Cond.methodLink RX3 118 yX0_fact, Cond.instanceMethod yX0_fact]
def wsX4_isSame_r2 : List Cond := [Cond.selects RX0 yX0_fact yX0_fact, Cond.initialized RX0, Cond.code yX0_fact cX0_fact 2 (some .int), Cond.fieldLink RX0 20 "CoracleRace$Boat" "place" "I", Cond.fieldLink RX0 23 "CoracleRace$Boat" "lane" "I", Cond.fieldLink RX0 26 "CoracleRace$Boat" "heading" "I", Cond.fieldLink RX0 29 "CoracleRace$Boat" "soaked" "I", Cond.fieldLink RX0 32 "CoracleRace$Boat" "fouls" "I", Cond.fieldLink RX0 35 "CoracleRace$Boat" "in" "Z", Cond.fieldLink RX0 42 "CoracleRace$Boat" "spins" "I", Cond.fieldLink RX0 45 "CoracleRace$Boat" "stops" "I", Cond.methodLink RX0 58 yX0_time, Cond.instanceMethod yX0_time, Cond.selects RX0 yX0_time yX0_time, Cond.code yX0_time cX0_time 1 (some .int), Cond.fieldLink RX0 39 "CoracleRace$Boat" "tickIn" "I", Cond.methodLink RX4 71 yX3_rank, Cond.instanceMethod yX3_rank, Cond.selects RX3 yX3_rank yX3_rank, Cond.code yX3_rank cX3_rank 2 (some .int), Cond.methodLink RX3 133 yX1_rankOf, Cond.instanceMethod yX1_rankOf, Cond.selects RX1 yX1_rankOf yX1_rankOf, Cond.code yX1_rankOf cX1_rankOf 4 (some .int)]
def wsX4_isSame_r3 : List Cond := [Cond.fieldLink RX1 11 "CoracleRace$Fleet" "boats" "[LCoracleRace$Boat;", Cond.methodLink RX1 49 yX0_isAheadOf, Cond.instanceMethod yX0_isAheadOf, Cond.selects RX0 yX0_isAheadOf yX0_isAheadOf, Cond.code yX0_isAheadOf cX0_isAheadOf 2 (some .boolean), Cond.methodLink RX4 74 yX4_rank, Cond.instanceMethod yX4_rank, Cond.selects RX4 yX4_rank yX4_rank, Cond.code yX4_rank cX4_rank 7 (some .int), Cond.methodLink RX4 76 yX4_counts, Cond.instanceMethod yX4_counts, Cond.selects RX4 yX4_counts yX4_counts, Cond.code yX4_counts cX4_counts 7 (some (.array .int)), Cond.fieldLink RX4 30 "CoracleRaceLaw$Sim" "tick" "I", Cond.fieldLink RX4 52 "CoracleRaceLaw$Sim" "many" "I", Cond.methodLink RX4 80 yX3_count, Cond.instanceMethod yX3_count, Cond.selects RX3 yX3_count yX3_count, Cond.code yX3_count cX3_count 2 (some .int), Cond.methodLink RX3 124 yX3_countIn, Cond.instanceMethod yX3_countIn, Cond.selects RX3 yX3_countIn yX3_countIn, Cond.code yX3_countIn cX3_countIn 3 (some .int), Cond.fieldLink RX3 150 "CoracleRace$Fleet" "tick" "I"]
def wsX4_isSame_r4 : List Cond := [Cond.fieldLink RX3 74 "CoracleRace$Fleet" "size" "I", Cond.fieldLink RX3 10 "CoracleRace" "river" "LCoracleRace$River;", Cond.fieldLink RX3 50 "CoracleRace$River" "weirs" "I", Cond.methodLink RX3 139 yX1_boatsIn, Cond.instanceMethod yX1_boatsIn, Cond.selects RX1 yX1_boatsIn yX1_boatsIn, Cond.code yX1_boatsIn cX1_boatsIn 3 (some .int), Cond.methodLink RX1 35 yX0_isIn, Cond.instanceMethod yX0_isIn, Cond.selects RX0 yX0_isIn yX0_isIn, Cond.code yX0_isIn cX0_isIn 1 (some .boolean), Cond.methodLink RX3 187 yX1_foulsAdded, Cond.instanceMethod yX1_foulsAdded, Cond.selects RX1 yX1_foulsAdded yX1_foulsAdded, Cond.code yX1_foulsAdded cX1_foulsAdded 3 (some .int), Cond.fieldLink RX1 39 "CoracleRace$Boat" "fouls" "I", Cond.methodLink RX3 190 yX1_leader, Cond.instanceMethod yX1_leader, Cond.selects RX1 yX1_leader yX1_leader, Cond.code yX1_leader cX1_leader 4 (some .int), Cond.fieldLink RX1 42 "CoracleRace$Boat" "place" "I", Cond.methodLink RX3 193 yX1_winner, Cond.instanceMethod yX1_winner, Cond.selects RX1 yX1_winner yX1_winner]
def wsX4_isSame_r5 : List Cond := [Cond.code yX1_winner cX1_winner 4 (some .int), Cond.methodLink RX1 45 yX0_time, Cond.methodLink RX4 83 yX3_mean, Cond.instanceMethod yX3_mean, Cond.selects RX3 yX3_mean yX3_mean, Cond.code yX3_mean cX3_mean 1 (some .double), Cond.methodLink RX3 167 yX1_placesAdded, Cond.instanceMethod yX1_placesAdded, Cond.selects RX1 yX1_placesAdded yX1_placesAdded, Cond.code yX1_placesAdded cX1_placesAdded 3 (some .int)]
def wsX4_isSame : List Cond := .code yX4_isSame cX4_isSame 7 (some .boolean) :: ((wsX4_isSame_r1 ++ (wsX4_isSame_r2 ++ (wsX4_isSame_r3 ++ (wsX4_isSame_r4 ++ wsX4_isSame_r5)))) ++ wsX40 ++ wsX30 ++ wsX10 ++ wsX00 ++ wsX20 ++ (vx_atS RX3 34 "java/lang/IndexOutOfBoundsException" ["java/lang/RuntimeException", "java/lang/Exception"]).filter goodWord)
def wsJ9_abs_0f7a4 : List Cond := .code yJ9_abs_0f7a4 cJ9_abs_0f7a4 1 (some .int) :: ([])
def wsJ9_max_7cf53 : List Cond := .code yJ9_max_7cf53 cJ9_max_7cf53 2 (some .int) :: ([])
def wsJ9_min_7cf53 : List Cond := .code yJ9_min_7cf53 cJ9_min_7cf53 2 (some .int) :: ([])
def wsL_below : List Cond := .code yL_below cL_below 2 (some .int) :: ([.constant RL 7 (2147483647)])
def wsL_cell : List Cond := .code yL_cell cL_cell 2 (some .int) :: ([.constant RL 8 (790386105)])
def wsL_act_r1 : List Cond := [Cond.classLink RL 40 "java/lang/IllegalStateException", Cond.fieldLink RL 9 "CoracleRaceLaw$Sim" "boats" "[[I", Cond.fieldLink RL 21 "CoracleRaceLaw$Sim" "water" "[I", Cond.fieldLink RL 30 "CoracleRaceLaw$Sim" "many" "I", Cond.fieldLink RL 34 "CoracleRaceLaw$Sim" "weirs" "[I", Cond.arrayClass .int, Cond.fieldLink RL 49 "CoracleRaceLaw$Sim" "strokes" "[[I", Cond.methodLink RL 15 yL_below, Cond.static yL_below, Cond.initialized RL, Cond.code yL_below cL_below 2 (some .int), Cond.constant RL 7 (2147483647), Cond.methodLink RL 25 yX3_setWater, Cond.instanceMethod yX3_setWater, Cond.selects RX3 yX3_setWater yX3_setWater, Cond.initialized RX3, Cond.code yX3_setWater cX3_setWater 4 (some .int), Cond.classLink RX3 30 "java/lang/IndexOutOfBoundsException", Cond.initialized "java/lang/IndexOutOfBoundsException", Cond.classLink RX3 37 "java/lang/IllegalArgumentException", Cond.initialized "java/lang/IllegalArgumentException", Cond.fieldLink RX3 10 "CoracleRace" "river" "LCoracleRace$River;", Cond.fieldLink RX3 42 "CoracleRace$River" "water" "[I", Cond.methodLink RX3 26 yX2_isLane]
def wsL_act_r2 : List Cond := [Cond.static yX2_isLane, Cond.initialized RX2, Cond.code yX2_isLane cX2_isLane 1 (some .boolean), Cond.methodLink RL 37 yX3_weir, Cond.instanceMethod yX3_weir, Cond.selects RX3 yX3_weir yX3_weir, Cond.code yX3_weir cX3_weir 3 (some .int), Cond.classLink RX3 54 "java/lang/IllegalStateException", Cond.initialized "java/lang/IllegalStateException", Cond.fieldLink RX3 50 "CoracleRace$River" "weirs" "I", Cond.methodLink RX3 59 yX2_hasWeirAt, Cond.instanceMethod yX2_hasWeirAt, Cond.selects RX2 yX2_hasWeirAt yX2_hasWeirAt, Cond.code yX2_hasWeirAt cX2_hasWeirAt 3 (some .boolean), Cond.fieldLink RX2 19 "CoracleRace$River" "weirs" "I", Cond.fieldLink RX2 13 "CoracleRace$River" "places" "[I", Cond.methodLink RX3 64 yX2_addWeir, Cond.instanceMethod yX2_addWeir, Cond.selects RX2 yX2_addWeir yX2_addWeir, Cond.code yX2_addWeir cX2_addWeir 3 none, Cond.fieldLink RX2 16 "CoracleRace$River" "gaps" "[I", Cond.methodLink RL 42 yX3_launch, Cond.instanceMethod yX3_launch, Cond.selects RX3 yX3_launch yX3_launch]
def wsL_act_r3 : List Cond := [Cond.code yX3_launch cX3_launch 3 (some .int), Cond.fieldLink RX3 19 "CoracleRace" "fleet" "LCoracleRace$Fleet;", Cond.fieldLink RX3 74 "CoracleRace$Fleet" "size" "I", Cond.methodLink RX3 79 yX1_add, Cond.instanceMethod yX1_add, Cond.selects RX1 yX1_add yX1_add, Cond.initialized RX1, Cond.code yX1_add cX1_add 3 (some .int), Cond.fieldLink RX1 15 "CoracleRace$Fleet" "size" "I", Cond.fieldLink RX1 11 "CoracleRace$Fleet" "boats" "[LCoracleRace$Boat;", Cond.methodLink RX1 23 yX0_start, Cond.instanceMethod yX0_start, Cond.selects RX0 yX0_start yX0_start, Cond.initialized RX0, Cond.code yX0_start cX0_start 3 none, Cond.fieldLink RX0 23 "CoracleRace$Boat" "lane" "I", Cond.fieldLink RX0 17 "CoracleRace$Boat" "strength" "I", Cond.methodLink RX0 48 yX0_takePattern, Cond.instanceMethod yX0_takePattern, Cond.selects RX0 yX0_takePattern yX0_takePattern, Cond.code yX0_takePattern cX0_takePattern 5 none, Cond.fieldLink RX0 9 "CoracleRace$Boat" "strokes" "[I", Cond.fieldLink RX0 13 "CoracleRace$Boat" "length" "I", Cond.methodLink RL 45 yX4_more]
def wsL_act_r4 : List Cond := [Cond.static yX4_more, Cond.initialized RX4, Cond.code yX4_more cX4_more 4 (some (.array (.array .int))), Cond.classLink RX4 16 "[I", Cond.methodLink RL 52 yX3_paddle, Cond.instanceMethod yX3_paddle, Cond.selects RX3 yX3_paddle yX3_paddle, Cond.code yX3_paddle cX3_paddle 5 (some .int), Cond.fieldLink RX3 96 "CoracleRace$Fleet" "boats" "[LCoracleRace$Boat;", Cond.fieldLink RX3 100 "CoracleRace$Boat" "length" "I", Cond.methodLink RX3 83 yX1_has, Cond.instanceMethod yX1_has, Cond.selects RX1 yX1_has yX1_has, Cond.code yX1_has cX1_has 2 (some .boolean), Cond.methodLink RX3 90 yX3_isPattern, Cond.static yX3_isPattern, Cond.code yX3_isPattern cX3_isPattern 4 (some .boolean), Cond.methodLink RX3 103 yX0_takePattern, Cond.methodLink RL 56 yX3_tar, Cond.instanceMethod yX3_tar, Cond.selects RX3 yX3_tar yX3_tar, Cond.code yX3_tar cX3_tar 2 (some .int), Cond.methodLink RX3 106 yX0_isIn, Cond.instanceMethod yX0_isIn]
def wsL_act_r5 : List Cond := [Cond.selects RX0 yX0_isIn yX0_isIn, Cond.code yX0_isIn cX0_isIn 1 (some .boolean), Cond.fieldLink RX0 35 "CoracleRace$Boat" "in" "Z", Cond.methodLink RX3 112 yX0_dryOut, Cond.instanceMethod yX0_dryOut, Cond.selects RX0 yX0_dryOut yX0_dryOut, Cond.code yX0_dryOut cX0_dryOut 2 (some .int), Cond.fieldLink RX0 29 "CoracleRace$Boat" "soaked" "I", Cond.fieldLink RX0 32 "CoracleRace$Boat" "fouls" "I"]
def wsL_act : List Cond := .codeWith yL_act cL_act 9 (some .boolean) [(194, 204, 207, 40), (328, 343, 346, 40), (603, 610, 613, 40)] :: ((wsL_act_r1 ++ (wsL_act_r2 ++ (wsL_act_r3 ++ (wsL_act_r4 ++ wsL_act_r5)))) ++ wsX40 ++ wsX30 ++ wsX20 ++ wsX10 ++ wsX00 ++ (vx_atS RX3 34 "java/lang/IndexOutOfBoundsException" ["java/lang/RuntimeException", "java/lang/Exception"]).filter goodWord ++ (vx_atS RX3 41 "java/lang/IllegalArgumentException" ["java/lang/RuntimeException", "java/lang/Exception"]).filter goodWord ++ (vx_atS RX3 58 "java/lang/IllegalStateException" ["java/lang/RuntimeException", "java/lang/Exception"]).filter goodWord)
def wsL_build_r1 : List Cond := [Cond.classLink RL 10 RX4, Cond.instantiable RX4 6, Cond.initialized RX4, Cond.methodLink RL 60 yX4_init, Cond.instanceMethod yX4_init, Cond.code yX4_init cX4_init 1 none, Cond.methodLink RX4 1 objectInit, Cond.instanceMethod objectInit, Cond.code objectInit ⟨#[0xb1]⟩ 1 none, Cond.arrayClass .int, Cond.fieldLink RX4 7 "CoracleRaceLaw$Sim" "water" "[I", Cond.fieldLink RX4 13 "CoracleRaceLaw$Sim" "weirs" "[I", Cond.classLink RX4 16 "[I", Cond.fieldLink RX4 17 "CoracleRaceLaw$Sim" "boats" "[[I", Cond.fieldLink RX4 21 "CoracleRaceLaw$Sim" "strokes" "[[I", Cond.methodLink RX4 24 yJ7_fill_53178, Cond.static yJ7_fill_53178, Cond.initialized RJ7, Cond.code yJ7_fill_53178 cJ7_fill_53178 4 none, Cond.methodLink RL 61 yL_cell, Cond.static yL_cell, Cond.initialized RL, Cond.code yL_cell cL_cell 2 (some .int), Cond.constant RL 8 (790386105)]
def wsL_build_r2 : List Cond := [Cond.methodLink RL 15 yL_below, Cond.static yL_below, Cond.code yL_below cL_below 2 (some .int), Cond.constant RL 7 (2147483647), Cond.methodLink RL 65 yL_act, Cond.static yL_act, Cond.codeWith yL_act cL_act 9 (some .boolean) [(194, 204, 207, 40), (328, 343, 346, 40), (603, 610, 613, 40)], Cond.classLink RL 40 "java/lang/IllegalStateException", Cond.fieldLink RL 9 "CoracleRaceLaw$Sim" "boats" "[[I", Cond.fieldLink RL 21 "CoracleRaceLaw$Sim" "water" "[I", Cond.fieldLink RL 30 "CoracleRaceLaw$Sim" "many" "I", Cond.fieldLink RL 34 "CoracleRaceLaw$Sim" "weirs" "[I", Cond.fieldLink RL 49 "CoracleRaceLaw$Sim" "strokes" "[[I", Cond.methodLink RL 25 yX3_setWater, Cond.instanceMethod yX3_setWater, Cond.selects RX3 yX3_setWater yX3_setWater, Cond.initialized RX3, Cond.code yX3_setWater cX3_setWater 4 (some .int), Cond.classLink RX3 30 "java/lang/IndexOutOfBoundsException", Cond.initialized "java/lang/IndexOutOfBoundsException", Cond.classLink RX3 37 "java/lang/IllegalArgumentException", Cond.initialized "java/lang/IllegalArgumentException", Cond.fieldLink RX3 10 "CoracleRace" "river" "LCoracleRace$River;", Cond.fieldLink RX3 42 "CoracleRace$River" "water" "[I"]
def wsL_build_r3 : List Cond := [Cond.methodLink RX3 26 yX2_isLane, Cond.static yX2_isLane, Cond.initialized RX2, Cond.code yX2_isLane cX2_isLane 1 (some .boolean), Cond.methodLink RL 37 yX3_weir, Cond.instanceMethod yX3_weir, Cond.selects RX3 yX3_weir yX3_weir, Cond.code yX3_weir cX3_weir 3 (some .int), Cond.classLink RX3 54 "java/lang/IllegalStateException", Cond.initialized "java/lang/IllegalStateException", Cond.fieldLink RX3 50 "CoracleRace$River" "weirs" "I", Cond.methodLink RX3 59 yX2_hasWeirAt, Cond.instanceMethod yX2_hasWeirAt, Cond.selects RX2 yX2_hasWeirAt yX2_hasWeirAt, Cond.code yX2_hasWeirAt cX2_hasWeirAt 3 (some .boolean), Cond.fieldLink RX2 19 "CoracleRace$River" "weirs" "I", Cond.fieldLink RX2 13 "CoracleRace$River" "places" "[I", Cond.methodLink RX3 64 yX2_addWeir, Cond.instanceMethod yX2_addWeir, Cond.selects RX2 yX2_addWeir yX2_addWeir, Cond.code yX2_addWeir cX2_addWeir 3 none, Cond.fieldLink RX2 16 "CoracleRace$River" "gaps" "[I", Cond.methodLink RL 42 yX3_launch, Cond.instanceMethod yX3_launch]
def wsL_build_r4 : List Cond := [Cond.selects RX3 yX3_launch yX3_launch, Cond.code yX3_launch cX3_launch 3 (some .int), Cond.fieldLink RX3 19 "CoracleRace" "fleet" "LCoracleRace$Fleet;", Cond.fieldLink RX3 74 "CoracleRace$Fleet" "size" "I", Cond.methodLink RX3 79 yX1_add, Cond.instanceMethod yX1_add, Cond.selects RX1 yX1_add yX1_add, Cond.initialized RX1, Cond.code yX1_add cX1_add 3 (some .int), Cond.fieldLink RX1 15 "CoracleRace$Fleet" "size" "I", Cond.fieldLink RX1 11 "CoracleRace$Fleet" "boats" "[LCoracleRace$Boat;", Cond.methodLink RX1 23 yX0_start, Cond.instanceMethod yX0_start, Cond.selects RX0 yX0_start yX0_start, Cond.initialized RX0, Cond.code yX0_start cX0_start 3 none, Cond.fieldLink RX0 23 "CoracleRace$Boat" "lane" "I", Cond.fieldLink RX0 17 "CoracleRace$Boat" "strength" "I", Cond.methodLink RX0 48 yX0_takePattern, Cond.instanceMethod yX0_takePattern, Cond.selects RX0 yX0_takePattern yX0_takePattern, Cond.code yX0_takePattern cX0_takePattern 5 none, Cond.fieldLink RX0 9 "CoracleRace$Boat" "strokes" "[I", Cond.fieldLink RX0 13 "CoracleRace$Boat" "length" "I"]
def wsL_build_r5 : List Cond := [Cond.methodLink RL 45 yX4_more, Cond.static yX4_more, Cond.code yX4_more cX4_more 4 (some (.array (.array .int))), Cond.methodLink RL 52 yX3_paddle, Cond.instanceMethod yX3_paddle, Cond.selects RX3 yX3_paddle yX3_paddle, Cond.code yX3_paddle cX3_paddle 5 (some .int), Cond.fieldLink RX3 96 "CoracleRace$Fleet" "boats" "[LCoracleRace$Boat;", Cond.fieldLink RX3 100 "CoracleRace$Boat" "length" "I", Cond.methodLink RX3 83 yX1_has, Cond.instanceMethod yX1_has, Cond.selects RX1 yX1_has yX1_has, Cond.code yX1_has cX1_has 2 (some .boolean), Cond.methodLink RX3 90 yX3_isPattern, Cond.static yX3_isPattern, Cond.code yX3_isPattern cX3_isPattern 4 (some .boolean), Cond.methodLink RX3 103 yX0_takePattern, Cond.methodLink RL 56 yX3_tar, Cond.instanceMethod yX3_tar, Cond.selects RX3 yX3_tar yX3_tar, Cond.code yX3_tar cX3_tar 2 (some .int), Cond.methodLink RX3 106 yX0_isIn, Cond.instanceMethod yX0_isIn, Cond.selects RX0 yX0_isIn yX0_isIn]
def wsL_build_r6 : List Cond := [Cond.code yX0_isIn cX0_isIn 1 (some .boolean), Cond.fieldLink RX0 35 "CoracleRace$Boat" "in" "Z", Cond.methodLink RX3 112 yX0_dryOut, Cond.instanceMethod yX0_dryOut, Cond.selects RX0 yX0_dryOut yX0_dryOut, Cond.code yX0_dryOut cX0_dryOut 2 (some .int), Cond.fieldLink RX0 29 "CoracleRace$Boat" "soaked" "I", Cond.fieldLink RX0 32 "CoracleRace$Boat" "fouls" "I", Cond.methodLink RL 69 yX3_go, Cond.instanceMethod yX3_go, Cond.selects RX3 yX3_go yX3_go, Cond.code yX3_go cX3_go 3 (some .int), Cond.methodLink RX3 139 yX1_boatsIn, Cond.instanceMethod yX1_boatsIn, Cond.selects RX1 yX1_boatsIn yX1_boatsIn, Cond.code yX1_boatsIn cX1_boatsIn 3 (some .int), Cond.methodLink RX1 35 yX0_isIn, Cond.methodLink RX3 142 yX1_letTicksGoBy, Cond.instanceMethod yX1_letTicksGoBy, Cond.selects RX1 yX1_letTicksGoBy yX1_letTicksGoBy, Cond.code yX1_letTicksGoBy cX1_letTicksGoBy 5 none, Cond.fieldLink RX1 19 "CoracleRace$Fleet" "tick" "I", Cond.methodLink RX1 31 yX0_letTickGoBy, Cond.instanceMethod yX0_letTickGoBy]
def wsL_build_r7 : List Cond := [Cond.selects RX0 yX0_letTickGoBy yX0_letTickGoBy, Cond.code yX0_letTickGoBy cX0_letTickGoBy 4 none, Cond.fieldLink RX0 20 "CoracleRace$Boat" "place" "I", Cond.fieldLink RX0 39 "CoracleRace$Boat" "tickIn" "I", Cond.methodLink RX0 62 yX0_strokeIn, Cond.instanceMethod yX0_strokeIn, Cond.selects RX0 yX0_strokeIn yX0_strokeIn, Cond.code yX0_strokeIn cX0_strokeIn 2 (some .int), Cond.methodLink RX0 82 yJ9_floorMod_7cf53, Cond.static yJ9_floorMod_7cf53, Cond.initialized RJ9, Cond.code yJ9_floorMod_7cf53 cJ9_floorMod_7cf53 3 (some .int), Cond.methodLink RX0 66 yX0_forceOf, Cond.instanceMethod yX0_forceOf, Cond.selects RX0 yX0_forceOf yX0_forceOf, Cond.code yX0_forceOf cX0_forceOf 2 (some .int), Cond.fieldLink RX0 26 "CoracleRace$Boat" "heading" "I", Cond.fieldLink RX0 42 "CoracleRace$Boat" "spins" "I", Cond.methodLink RX0 91 Lib.Math.max.name, Cond.static Lib.Math.max.name, Cond.initialized "java/lang/Math", Cond.code Lib.Math.max.name Lib.Math.max.code 2 (some .int), Cond.methodLink RX0 88 yX0_pushOf, Cond.instanceMethod yX0_pushOf]
def wsL_build_r8 : List Cond := [Cond.selects RX0 yX0_pushOf yX0_pushOf, Cond.code yX0_pushOf cX0_pushOf 2 (some .int), Cond.methodLink RX0 69 yX0_drift, Cond.instanceMethod yX0_drift, Cond.selects RX0 yX0_drift yX0_drift, Cond.code yX0_drift cX0_drift 2 none, Cond.methodLink RX0 94 yX2_isLane, Cond.methodLink RX0 72 yX0_advance, Cond.instanceMethod yX0_advance, Cond.selects RX0 yX0_advance yX0_advance, Cond.code yX0_advance cX0_advance 5 none, Cond.methodLink RX0 98 Lib.Math.abs.name, Cond.static Lib.Math.abs.name, Cond.code Lib.Math.abs.name Lib.Math.abs.code 1 (some .int), Cond.fieldLink RX0 101 "CoracleRace$River" "water" "[I", Cond.methodLink RX0 108 Lib.Math.min.name, Cond.static Lib.Math.min.name, Cond.code Lib.Math.min.name Lib.Math.min.code 2 (some .int), Cond.fieldLink RX0 45 "CoracleRace$Boat" "stops" "I", Cond.methodLink RX0 104 yX2_firstStop, Cond.instanceMethod yX2_firstStop, Cond.selects RX2 yX2_firstStop yX2_firstStop, Cond.code yX2_firstStop cX2_firstStop 7 (some .int), Cond.methodLink RX0 76 yX0_soak]
def wsL_build_r9 : List Cond := [Cond.instanceMethod yX0_soak, Cond.selects RX0 yX0_soak yX0_soak, Cond.code yX0_soak cX0_soak 2 none, Cond.methodLink RL 72 yX4_go_, Cond.instanceMethod yX4_go_, Cond.selects RX4 yX4_go_ yX4_go_, Cond.code yX4_go_ cX4_go_ 3 (some .int), Cond.fieldLink RX4 30 "CoracleRaceLaw$Sim" "tick" "I", Cond.methodLink RX4 44 yX4_go, Cond.instanceMethod yX4_go, Cond.selects RX4 yX4_go yX4_go, Cond.code yX4_go cX4_go 6 none, Cond.methodLink RX4 34 Lib.Math.abs.name, Cond.methodLink RX4 40 Lib.Math.min.name]
def wsL_build : List Cond := .code yL_build cL_build 5 (some (.object "CoracleRaceLaw$Sim")) :: ((wsL_build_r1 ++ (wsL_build_r2 ++ (wsL_build_r3 ++ (wsL_build_r4 ++ (wsL_build_r5 ++ (wsL_build_r6 ++ (wsL_build_r7 ++ (wsL_build_r8 ++ wsL_build_r9)))))))) ++ wsX40 ++ wsX30 ++ wsX20 ++ wsX10 ++ wsX00 ++ (vx_atS RX3 34 "java/lang/IndexOutOfBoundsException" ["java/lang/RuntimeException", "java/lang/Exception"]).filter goodWord ++ (vx_atS RX3 41 "java/lang/IllegalArgumentException" ["java/lang/RuntimeException", "java/lang/Exception"]).filter goodWord ++ (vx_atS RX3 58 "java/lang/IllegalStateException" ["java/lang/RuntimeException", "java/lang/Exception"]).filter goodWord)
def wsL_law0_r1 : List Cond := [Cond.classLink RL 26 RX3, Cond.instantiable RX3 3, Cond.initialized RX3, Cond.fieldLink RL 9 "CoracleRaceLaw$Sim" "boats" "[[I", Cond.classLink RL 80 "[[I", Cond.arrayClass .int, Cond.methodLink RL 97 Lib.Math.abs.name, Cond.static Lib.Math.abs.name, Cond.initialized "java/lang/Math", Cond.code Lib.Math.abs.name Lib.Math.abs.code 1 (some .int), Cond.fieldLink RL 34 "CoracleRaceLaw$Sim" "weirs" "[I", Cond.methodLink RL 75 yX3_init, Cond.instanceMethod yX3_init, Cond.code yX3_init cX3_init 1 none, Cond.methodLink RX3 1 objectInit, Cond.instanceMethod objectInit, Cond.code objectInit ⟨#[0xb1]⟩ 1 none, Cond.classLink RX3 7 RX2, Cond.instantiable RX2 4, Cond.initialized RX2, Cond.fieldLink RX3 10 "CoracleRace" "river" "LCoracleRace$River;", Cond.classLink RX3 16 RX1, Cond.instantiable RX1 3, Cond.initialized RX1]
def wsL_law0_r2 : List Cond := [Cond.fieldLink RX3 19 "CoracleRace" "fleet" "LCoracleRace$Fleet;", Cond.fieldLink RX3 23 "CoracleRace" "trial" "LCoracleRace$Fleet;", Cond.instanceMethod yX2_init, Cond.code yX2_init cX2_init 1 none, Cond.methodLink RX2 1 objectInit, Cond.fieldLink RX2 7 "CoracleRace$River" "water" "[I", Cond.fieldLink RX2 13 "CoracleRace$River" "places" "[I", Cond.fieldLink RX2 16 "CoracleRace$River" "gaps" "[I", Cond.fieldLink RX2 19 "CoracleRace$River" "weirs" "I", Cond.methodLink RX3 18 yX1_init, Cond.instanceMethod yX1_init, Cond.code yX1_init cX1_init 2 none, Cond.methodLink RX1 1 objectInit, Cond.classLink RX1 9 RX0, Cond.fieldLink RX1 11 "CoracleRace$Fleet" "boats" "[LCoracleRace$Boat;", Cond.fieldLink RX1 15 "CoracleRace$Fleet" "size" "I", Cond.fieldLink RX1 19 "CoracleRace$Fleet" "tick" "I", Cond.instantiable RX0 12, Cond.initialized RX0, Cond.instanceMethod yX0_init, Cond.code yX0_init cX0_init 1 none, Cond.methodLink RX0 1 objectInit, Cond.fieldLink RX0 9 "CoracleRace$Boat" "strokes" "[I", Cond.fieldLink RX0 13 "CoracleRace$Boat" "length" "I"]
def wsL_law0_r3 : List Cond := [Cond.fieldLink RX0 17 "CoracleRace$Boat" "strength" "I", Cond.fieldLink RX0 20 "CoracleRace$Boat" "place" "I", Cond.fieldLink RX0 23 "CoracleRace$Boat" "lane" "I", Cond.fieldLink RX0 26 "CoracleRace$Boat" "heading" "I", Cond.fieldLink RX0 29 "CoracleRace$Boat" "soaked" "I", Cond.fieldLink RX0 32 "CoracleRace$Boat" "fouls" "I", Cond.fieldLink RX0 35 "CoracleRace$Boat" "in" "Z", Cond.fieldLink RX0 39 "CoracleRace$Boat" "tickIn" "I", Cond.fieldLink RX0 42 "CoracleRace$Boat" "spins" "I", Cond.fieldLink RX0 45 "CoracleRace$Boat" "stops" "I", Cond.methodLink RL 76 yL_build, Cond.static yL_build, Cond.initialized RL, Cond.code yL_build cL_build 5 (some (.object "CoracleRaceLaw$Sim")), Cond.classLink RL 10 RX4, Cond.instantiable RX4 6, Cond.initialized RX4, Cond.methodLink RL 60 yX4_init, Cond.instanceMethod yX4_init, Cond.code yX4_init cX4_init 1 none, Cond.methodLink RX4 1 objectInit, Cond.fieldLink RX4 7 "CoracleRaceLaw$Sim" "water" "[I", Cond.fieldLink RX4 13 "CoracleRaceLaw$Sim" "weirs" "[I", Cond.classLink RX4 16 "[I"]
def wsL_law0_r4 : List Cond := [Cond.fieldLink RX4 17 "CoracleRaceLaw$Sim" "boats" "[[I", Cond.fieldLink RX4 21 "CoracleRaceLaw$Sim" "strokes" "[[I", Cond.methodLink RX4 24 yJ7_fill_53178, Cond.static yJ7_fill_53178, Cond.initialized RJ7, Cond.code yJ7_fill_53178 cJ7_fill_53178 4 none, Cond.methodLink RL 61 yL_cell, Cond.static yL_cell, Cond.code yL_cell cL_cell 2 (some .int), Cond.constant RL 8 (790386105), Cond.methodLink RL 15 yL_below, Cond.static yL_below, Cond.code yL_below cL_below 2 (some .int), Cond.constant RL 7 (2147483647), Cond.methodLink RL 65 yL_act, Cond.static yL_act, Cond.codeWith yL_act cL_act 9 (some .boolean) [(194, 204, 207, 40), (328, 343, 346, 40), (603, 610, 613, 40)], Cond.classLink RL 40 "java/lang/IllegalStateException", Cond.fieldLink RL 21 "CoracleRaceLaw$Sim" "water" "[I", Cond.fieldLink RL 30 "CoracleRaceLaw$Sim" "many" "I", Cond.fieldLink RL 49 "CoracleRaceLaw$Sim" "strokes" "[[I", Cond.methodLink RL 25 yX3_setWater, Cond.instanceMethod yX3_setWater, Cond.selects RX3 yX3_setWater yX3_setWater]
def wsL_law0_r5 : List Cond := [Cond.code yX3_setWater cX3_setWater 4 (some .int), Cond.classLink RX3 30 "java/lang/IndexOutOfBoundsException", Cond.initialized "java/lang/IndexOutOfBoundsException", Cond.classLink RX3 37 "java/lang/IllegalArgumentException", Cond.initialized "java/lang/IllegalArgumentException", Cond.fieldLink RX3 42 "CoracleRace$River" "water" "[I", Cond.methodLink RX3 26 yX2_isLane, Cond.static yX2_isLane, Cond.code yX2_isLane cX2_isLane 1 (some .boolean), Cond.methodLink RL 37 yX3_weir, Cond.instanceMethod yX3_weir, Cond.selects RX3 yX3_weir yX3_weir, Cond.code yX3_weir cX3_weir 3 (some .int), Cond.classLink RX3 54 "java/lang/IllegalStateException", Cond.initialized "java/lang/IllegalStateException", Cond.fieldLink RX3 50 "CoracleRace$River" "weirs" "I", Cond.methodLink RX3 59 yX2_hasWeirAt, Cond.instanceMethod yX2_hasWeirAt, Cond.selects RX2 yX2_hasWeirAt yX2_hasWeirAt, Cond.code yX2_hasWeirAt cX2_hasWeirAt 3 (some .boolean), Cond.methodLink RX3 64 yX2_addWeir, Cond.instanceMethod yX2_addWeir, Cond.selects RX2 yX2_addWeir yX2_addWeir, Cond.code yX2_addWeir cX2_addWeir 3 none]
def wsL_law0_r6 : List Cond := [Cond.methodLink RL 42 yX3_launch, Cond.instanceMethod yX3_launch, Cond.selects RX3 yX3_launch yX3_launch, Cond.code yX3_launch cX3_launch 3 (some .int), Cond.fieldLink RX3 74 "CoracleRace$Fleet" "size" "I", Cond.methodLink RX3 79 yX1_add, Cond.instanceMethod yX1_add, Cond.selects RX1 yX1_add yX1_add, Cond.code yX1_add cX1_add 3 (some .int), Cond.methodLink RX1 23 yX0_start, Cond.instanceMethod yX0_start, Cond.selects RX0 yX0_start yX0_start, Cond.code yX0_start cX0_start 3 none, Cond.methodLink RX0 48 yX0_takePattern, Cond.instanceMethod yX0_takePattern, Cond.selects RX0 yX0_takePattern yX0_takePattern, Cond.code yX0_takePattern cX0_takePattern 5 none, Cond.methodLink RL 45 yX4_more, Cond.static yX4_more, Cond.code yX4_more cX4_more 4 (some (.array (.array .int))), Cond.methodLink RL 52 yX3_paddle, Cond.instanceMethod yX3_paddle, Cond.selects RX3 yX3_paddle yX3_paddle, Cond.code yX3_paddle cX3_paddle 5 (some .int)]
def wsL_law0_r7 : List Cond := [Cond.fieldLink RX3 96 "CoracleRace$Fleet" "boats" "[LCoracleRace$Boat;", Cond.fieldLink RX3 100 "CoracleRace$Boat" "length" "I", Cond.methodLink RX3 83 yX1_has, Cond.instanceMethod yX1_has, Cond.selects RX1 yX1_has yX1_has, Cond.code yX1_has cX1_has 2 (some .boolean), Cond.methodLink RX3 90 yX3_isPattern, Cond.static yX3_isPattern, Cond.code yX3_isPattern cX3_isPattern 4 (some .boolean), Cond.methodLink RX3 103 yX0_takePattern, Cond.methodLink RL 56 yX3_tar, Cond.instanceMethod yX3_tar, Cond.selects RX3 yX3_tar yX3_tar, Cond.code yX3_tar cX3_tar 2 (some .int), Cond.methodLink RX3 106 yX0_isIn, Cond.instanceMethod yX0_isIn, Cond.selects RX0 yX0_isIn yX0_isIn, Cond.code yX0_isIn cX0_isIn 1 (some .boolean), Cond.methodLink RX3 112 yX0_dryOut, Cond.instanceMethod yX0_dryOut, Cond.selects RX0 yX0_dryOut yX0_dryOut, Cond.code yX0_dryOut cX0_dryOut 2 (some .int), Cond.methodLink RL 69 yX3_go, Cond.instanceMethod yX3_go]
def wsL_law0_r8 : List Cond := [Cond.selects RX3 yX3_go yX3_go, Cond.code yX3_go cX3_go 3 (some .int), Cond.methodLink RX3 139 yX1_boatsIn, Cond.instanceMethod yX1_boatsIn, Cond.selects RX1 yX1_boatsIn yX1_boatsIn, Cond.code yX1_boatsIn cX1_boatsIn 3 (some .int), Cond.methodLink RX1 35 yX0_isIn, Cond.methodLink RX3 142 yX1_letTicksGoBy, Cond.instanceMethod yX1_letTicksGoBy, Cond.selects RX1 yX1_letTicksGoBy yX1_letTicksGoBy, Cond.code yX1_letTicksGoBy cX1_letTicksGoBy 5 none, Cond.methodLink RX1 31 yX0_letTickGoBy, Cond.instanceMethod yX0_letTickGoBy, Cond.selects RX0 yX0_letTickGoBy yX0_letTickGoBy, Cond.code yX0_letTickGoBy cX0_letTickGoBy 4 none, Cond.methodLink RX0 62 yX0_strokeIn, Cond.instanceMethod yX0_strokeIn, Cond.selects RX0 yX0_strokeIn yX0_strokeIn, Cond.code yX0_strokeIn cX0_strokeIn 2 (some .int), Cond.methodLink RX0 82 yJ9_floorMod_7cf53, Cond.static yJ9_floorMod_7cf53, Cond.initialized RJ9, Cond.code yJ9_floorMod_7cf53 cJ9_floorMod_7cf53 3 (some .int), Cond.methodLink RX0 66 yX0_forceOf]
def wsL_law0_r9 : List Cond := [Cond.instanceMethod yX0_forceOf, Cond.selects RX0 yX0_forceOf yX0_forceOf, Cond.code yX0_forceOf cX0_forceOf 2 (some .int), Cond.methodLink RX0 91 Lib.Math.max.name, Cond.static Lib.Math.max.name, Cond.code Lib.Math.max.name Lib.Math.max.code 2 (some .int), Cond.methodLink RX0 88 yX0_pushOf, Cond.instanceMethod yX0_pushOf, Cond.selects RX0 yX0_pushOf yX0_pushOf, Cond.code yX0_pushOf cX0_pushOf 2 (some .int), Cond.methodLink RX0 69 yX0_drift, Cond.instanceMethod yX0_drift, Cond.selects RX0 yX0_drift yX0_drift, Cond.code yX0_drift cX0_drift 2 none, Cond.methodLink RX0 94 yX2_isLane, Cond.methodLink RX0 72 yX0_advance, Cond.instanceMethod yX0_advance, Cond.selects RX0 yX0_advance yX0_advance, Cond.code yX0_advance cX0_advance 5 none, Cond.methodLink RX0 98 Lib.Math.abs.name, Cond.fieldLink RX0 101 "CoracleRace$River" "water" "[I", Cond.methodLink RX0 108 Lib.Math.min.name, Cond.static Lib.Math.min.name, Cond.code Lib.Math.min.name Lib.Math.min.code 2 (some .int)]
def wsL_law0_r10 : List Cond := [Cond.methodLink RX0 104 yX2_firstStop, Cond.instanceMethod yX2_firstStop, Cond.selects RX2 yX2_firstStop yX2_firstStop, Cond.code yX2_firstStop cX2_firstStop 7 (some .int), Cond.methodLink RX0 76 yX0_soak, Cond.instanceMethod yX0_soak, Cond.selects RX0 yX0_soak yX0_soak, Cond.code yX0_soak cX0_soak 2 none, Cond.methodLink RL 72 yX4_go_, Cond.instanceMethod yX4_go_, Cond.selects RX4 yX4_go_ yX4_go_, Cond.code yX4_go_ cX4_go_ 3 (some .int), Cond.fieldLink RX4 30 "CoracleRaceLaw$Sim" "tick" "I", Cond.methodLink RX4 44 yX4_go, Cond.instanceMethod yX4_go, Cond.selects RX4 yX4_go yX4_go, Cond.code yX4_go cX4_go 6 none, Cond.methodLink RX4 34 Lib.Math.abs.name, Cond.methodLink RX4 40 Lib.Math.min.name, Cond.methodLink RL 81 yX3_boat, Cond.instanceMethod yX3_boat, Cond.selects RX3 yX3_boat yX3_boat, Cond.code yX3_boat cX3_boat 3 (some .int), Cond.methodLink RX3 118 yX0_fact]
def wsL_law0_r11 : List Cond := [Cond.instanceMethod yX0_fact, Cond.selects RX0 yX0_fact yX0_fact, Cond.code yX0_fact cX0_fact 2 (some .int), Cond.methodLink RX0 58 yX0_time, Cond.instanceMethod yX0_time, Cond.selects RX0 yX0_time yX0_time, Cond.code yX0_time cX0_time 1 (some .int), Cond.methodLink RL 84 yX3_arrives, Cond.instanceMethod yX3_arrives, Cond.selects RX3 yX3_arrives yX3_arrives, Cond.code yX3_arrives cX3_arrives 4 (some .int), Cond.fieldLink RX3 150 "CoracleRace$Fleet" "tick" "I", Cond.methodLink RX3 146 yX0_copyFrom, Cond.instanceMethod yX0_copyFrom, Cond.selects RX0 yX0_copyFrom yX0_copyFrom, Cond.code yX0_copyFrom cX0_copyFrom 2 none, Cond.methodLink RX0 52 arraycopyName, Cond.native arraycopyName, Cond.static arraycopyName, Cond.initialized "java/lang/System", Cond.methodLink RX3 153 yX0_letTickGoBy, Cond.methodLink RL 87 yX3_digest, Cond.instanceMethod yX3_digest, Cond.selects RX3 yX3_digest yX3_digest]
def wsL_law0_r12 : List Cond := [Cond.code yX3_digest cX3_digest 4 (some .long), Cond.constantLong RX3 170 (1163), Cond.constantLong RX3 172 (31), Cond.fieldLink RX3 174 "CoracleRace$River" "places" "[I", Cond.fieldLink RX3 177 "CoracleRace$River" "gaps" "[I", Cond.methodLink RX3 124 yX3_countIn, Cond.instanceMethod yX3_countIn, Cond.selects RX3 yX3_countIn yX3_countIn, Cond.code yX3_countIn cX3_countIn 3 (some .int), Cond.methodLink RX3 187 yX1_foulsAdded, Cond.instanceMethod yX1_foulsAdded, Cond.selects RX1 yX1_foulsAdded yX1_foulsAdded, Cond.code yX1_foulsAdded cX1_foulsAdded 3 (some .int), Cond.fieldLink RX1 39 "CoracleRace$Boat" "fouls" "I", Cond.methodLink RX3 190 yX1_leader, Cond.instanceMethod yX1_leader, Cond.selects RX1 yX1_leader yX1_leader, Cond.code yX1_leader cX1_leader 4 (some .int), Cond.fieldLink RX1 42 "CoracleRace$Boat" "place" "I", Cond.methodLink RX3 193 yX1_winner, Cond.instanceMethod yX1_winner, Cond.selects RX1 yX1_winner yX1_winner, Cond.code yX1_winner cX1_winner 4 (some .int), Cond.methodLink RX1 45 yX0_time]
def wsL_law0_r13 : List Cond := [Cond.methodLink RX3 180 yX3_digestWith, Cond.instanceMethod yX3_digestWith, Cond.selects RX3 yX3_digestWith yX3_digestWith, Cond.code yX3_digestWith cX3_digestWith 7 (some .long), Cond.fieldLink RX3 184 "CoracleRace$Boat" "strokes" "[I", Cond.methodLink RX3 133 yX1_rankOf, Cond.instanceMethod yX1_rankOf, Cond.selects RX1 yX1_rankOf yX1_rankOf, Cond.code yX1_rankOf cX1_rankOf 4 (some .int), Cond.methodLink RX1 49 yX0_isAheadOf, Cond.instanceMethod yX0_isAheadOf, Cond.selects RX0 yX0_isAheadOf yX0_isAheadOf, Cond.code yX0_isAheadOf cX0_isAheadOf 2 (some .boolean), Cond.methodLink RL 91 yX3_foresee, Cond.instanceMethod yX3_foresee, Cond.selects RX3 yX3_foresee yX3_foresee, Cond.code yX3_foresee cX3_foresee 3 (some .int), Cond.methodLink RX3 158 yX1_copyFrom, Cond.instanceMethod yX1_copyFrom, Cond.selects RX1 yX1_copyFrom yX1_copyFrom, Cond.code yX1_copyFrom cX1_copyFrom 3 none, Cond.methodLink RX1 27 yX0_copyFrom, Cond.methodLink RL 94 yX3_count, Cond.instanceMethod yX3_count]
def wsL_law0_r14 : List Cond := [Cond.selects RX3 yX3_count yX3_count, Cond.code yX3_count cX3_count 2 (some .int), Cond.methodLink RL 102 yX3_rank, Cond.instanceMethod yX3_rank, Cond.selects RX3 yX3_rank yX3_rank, Cond.code yX3_rank cX3_rank 2 (some .int), Cond.methodLink RL 105 yX3_mean, Cond.instanceMethod yX3_mean, Cond.selects RX3 yX3_mean yX3_mean, Cond.code yX3_mean cX3_mean 1 (some .double), Cond.methodLink RX3 167 yX1_placesAdded, Cond.instanceMethod yX1_placesAdded, Cond.selects RX1 yX1_placesAdded yX1_placesAdded, Cond.code yX1_placesAdded cX1_placesAdded 3 (some .int), Cond.methodLink RL 109 yX3_advise, Cond.instanceMethod yX3_advise, Cond.selects RX3 yX3_advise yX3_advise, Cond.code yX3_advise cX3_advise 9 (some .int), Cond.methodLink RX3 163 yX3_placeWith, Cond.instanceMethod yX3_placeWith, Cond.selects RX3 yX3_placeWith yX3_placeWith, Cond.code yX3_placeWith cX3_placeWith 6 (some .int), Cond.fieldLink RX3 196 "CoracleRace$Boat" "place" "I", Cond.methodLink RL 112 yX4_isSame]
def wsL_law0_r15 : List Cond := [Cond.instanceMethod yX4_isSame, Cond.selects RX4 yX4_isSame yX4_isSame, Cond.code yX4_isSame cX4_isSame 7 (some .boolean), Cond.methodLink RX4 48 yX4_time, Cond.instanceMethod yX4_time, Cond.selects RX4 yX4_time yX4_time, Cond.code yX4_time cX4_time 2 (some .int), Cond.methodLink RX4 66 yX3_boat, Cond.methodLink RX4 71 yX3_rank, Cond.methodLink RX4 74 yX4_rank, Cond.instanceMethod yX4_rank, Cond.selects RX4 yX4_rank yX4_rank, Cond.code yX4_rank cX4_rank 7 (some .int), Cond.methodLink RX4 76 yX4_counts, Cond.instanceMethod yX4_counts, Cond.selects RX4 yX4_counts yX4_counts, Cond.code yX4_counts cX4_counts 7 (some (.array .int)), Cond.fieldLink RX4 52 "CoracleRaceLaw$Sim" "many" "I", Cond.methodLink RX4 80 yX3_count, Cond.methodLink RX4 83 yX3_mean]
def wsL_law0 : List Cond := (wsL_law0_r1 ++ (wsL_law0_r2 ++ (wsL_law0_r3 ++ (wsL_law0_r4 ++ (wsL_law0_r5 ++ (wsL_law0_r6 ++ (wsL_law0_r7 ++ (wsL_law0_r8 ++ (wsL_law0_r9 ++ (wsL_law0_r10 ++ (wsL_law0_r11 ++ (wsL_law0_r12 ++ (wsL_law0_r13 ++ (wsL_law0_r14 ++ wsL_law0_r15)))))))))))))) ++ wsX30 ++ wsX40 ++ wsX20 ++ wsX10 ++ wsX00 ++ ([] : List Cond)
def wsL_law : List Cond := wsL_law0 ++ (vx_atS RX3 34 "java/lang/IndexOutOfBoundsException" ["java/lang/RuntimeException", "java/lang/Exception"]).filter goodWord ++ (vx_atS RX3 41 "java/lang/IllegalArgumentException" ["java/lang/RuntimeException", "java/lang/Exception"]).filter goodWord ++ (vx_atS RX3 58 "java/lang/IllegalStateException" ["java/lang/RuntimeException", "java/lang/Exception"]).filter goodWord
abbrev vwCl : List vw_C := [(RX0, TX0, 12), (RX1, TX1, 3), (RX2, TX2, 4), (RX3, TX3, 3), (RX4, TX4, 6)]
end
section
theorem dX0_init_0 : decode cX0_init 0 = .ok (.aload_n 0, 1) := by decide +kernel
theorem dX0_init_1 : decode cX0_init 1 = .ok (.invokespecial 1, 3) := by decide +kernel
theorem dX0_init_4 : decode cX0_init 4 = .ok (.aload_n 0, 1) := by decide +kernel
theorem dX0_init_5 : decode cX0_init 5 = .ok (.bipush 6, 2) := by decide +kernel
theorem dX0_init_7 : decode cX0_init 7 = .ok (.newarray .int, 2) := by decide +kernel
theorem dX0_init_9 : decode cX0_init 9 = .ok (.putfield 9, 3) := by decide +kernel
theorem dX0_init_12 : decode cX0_init 12 = .ok (.aload_n 0, 1) := by decide +kernel
theorem dX0_init_13 : decode cX0_init 13 = .ok (.iconst 1, 1) := by decide +kernel
theorem dX0_init_14 : decode cX0_init 14 = .ok (.putfield 13, 3) := by decide +kernel
theorem dX0_init_17 : decode cX0_init 17 = .ok (.aload_n 0, 1) := by decide +kernel
theorem dX0_init_18 : decode cX0_init 18 = .ok (.iconst 1, 1) := by decide +kernel
theorem dX0_init_19 : decode cX0_init 19 = .ok (.putfield 17, 3) := by decide +kernel
theorem dX0_init_22 : decode cX0_init 22 = .ok (.aload_n 0, 1) := by decide +kernel
theorem dX0_init_23 : decode cX0_init 23 = .ok (.iconst 0, 1) := by decide +kernel
theorem dX0_init_24 : decode cX0_init 24 = .ok (.putfield 20, 3) := by decide +kernel
theorem dX0_init_27 : decode cX0_init 27 = .ok (.aload_n 0, 1) := by decide +kernel
theorem dX0_init_28 : decode cX0_init 28 = .ok (.iconst 0, 1) := by decide +kernel
theorem dX0_init_29 : decode cX0_init 29 = .ok (.putfield 23, 3) := by decide +kernel
theorem dX0_init_32 : decode cX0_init 32 = .ok (.aload_n 0, 1) := by decide +kernel
theorem dX0_init_33 : decode cX0_init 33 = .ok (.iconst 0, 1) := by decide +kernel
theorem dX0_init_34 : decode cX0_init 34 = .ok (.putfield 26, 3) := by decide +kernel
theorem dX0_init_37 : decode cX0_init 37 = .ok (.aload_n 0, 1) := by decide +kernel
theorem dX0_init_38 : decode cX0_init 38 = .ok (.iconst 0, 1) := by decide +kernel
theorem dX0_init_39 : decode cX0_init 39 = .ok (.putfield 29, 3) := by decide +kernel
theorem dX0_init_42 : decode cX0_init 42 = .ok (.aload_n 0, 1) := by decide +kernel
theorem dX0_init_43 : decode cX0_init 43 = .ok (.iconst 0, 1) := by decide +kernel
theorem dX0_init_44 : decode cX0_init 44 = .ok (.putfield 32, 3) := by decide +kernel
theorem dX0_init_47 : decode cX0_init 47 = .ok (.aload_n 0, 1) := by decide +kernel
theorem dX0_init_48 : decode cX0_init 48 = .ok (.iconst 0, 1) := by decide +kernel
theorem dX0_init_49 : decode cX0_init 49 = .ok (.putfield 35, 3) := by decide +kernel
theorem dX0_init_52 : decode cX0_init 52 = .ok (.aload_n 0, 1) := by decide +kernel
theorem dX0_init_53 : decode cX0_init 53 = .ok (.iconst 0, 1) := by decide +kernel
theorem dX0_init_54 : decode cX0_init 54 = .ok (.putfield 39, 3) := by decide +kernel
theorem dX0_init_57 : decode cX0_init 57 = .ok (.aload_n 0, 1) := by decide +kernel
theorem dX0_init_58 : decode cX0_init 58 = .ok (.iconst 0, 1) := by decide +kernel
theorem dX0_init_59 : decode cX0_init 59 = .ok (.putfield 42, 3) := by decide +kernel
theorem dX0_init_62 : decode cX0_init 62 = .ok (.aload_n 0, 1) := by decide +kernel
theorem dX0_init_63 : decode cX0_init 63 = .ok (.iconst 0, 1) := by decide +kernel
theorem dX0_init_64 : decode cX0_init 64 = .ok (.putfield 45, 3) := by decide +kernel
theorem dX0_init_67 : decode cX0_init 67 = .ok (.return_, 1) := by decide +kernel
set_option maxRecDepth 20000 in
theorem ggX0_start_X0_takePattern : GoodIn wsX0_start wsX0_takePattern := goodIn_r _ [7, 8, 9, 10, 11, 12, 13, 14, 15, 16, 17, 18, 19, 20, 21] (by decide +kernel) (by decide +kernel)
set_option maxRecDepth 20000 in
theorem gX0_start_X0_takePattern : GoodIn wsX0_start (wsV RX0 48 RX0 yX0_takePattern wsX0_takePattern) := goodIn_app (goodIn_of _ (by decide +kernel)) ggX0_start_X0_takePattern
theorem dX0_start_0 : decode cX0_start 0 = .ok (.aload_n 0, 1) := by decide +kernel
theorem dX0_start_1 : decode cX0_start 1 = .ok (.iload_n 1, 1) := by decide +kernel
theorem dX0_start_2 : decode cX0_start 2 = .ok (.putfield 23, 3) := by decide +kernel
theorem dX0_start_5 : decode cX0_start 5 = .ok (.aload_n 0, 1) := by decide +kernel
theorem dX0_start_6 : decode cX0_start 6 = .ok (.iload_n 2, 1) := by decide +kernel
theorem dX0_start_7 : decode cX0_start 7 = .ok (.putfield 17, 3) := by decide +kernel
theorem dX0_start_10 : decode cX0_start 10 = .ok (.aload_n 0, 1) := by decide +kernel
theorem dX0_start_11 : decode cX0_start 11 = .ok (.iconst 1, 1) := by decide +kernel
theorem dX0_start_12 : decode cX0_start 12 = .ok (.iconst 3, 1) := by decide +kernel
theorem dX0_start_13 : decode cX0_start 13 = .ok (.invokevirtual 48, 3) := by decide +kernel
theorem dX0_start_16 : decode cX0_start 16 = .ok (.return_, 1) := by decide +kernel
theorem dX0_copyFrom_0 : decode cX0_copyFrom 0 = .ok (.aload_n 1, 1) := by decide +kernel
theorem dX0_copyFrom_1 : decode cX0_copyFrom 1 = .ok (.getfield 9, 3) := by decide +kernel
theorem dX0_copyFrom_4 : decode cX0_copyFrom 4 = .ok (.iconst 0, 1) := by decide +kernel
theorem dX0_copyFrom_5 : decode cX0_copyFrom 5 = .ok (.aload_n 0, 1) := by decide +kernel
theorem dX0_copyFrom_6 : decode cX0_copyFrom 6 = .ok (.getfield 9, 3) := by decide +kernel
theorem dX0_copyFrom_9 : decode cX0_copyFrom 9 = .ok (.iconst 0, 1) := by decide +kernel
theorem dX0_copyFrom_10 : decode cX0_copyFrom 10 = .ok (.bipush 6, 2) := by decide +kernel
theorem dX0_copyFrom_12 : decode cX0_copyFrom 12 = .ok (.invokestatic 52, 3) := by decide +kernel
theorem dX0_copyFrom_15 : decode cX0_copyFrom 15 = .ok (.aload_n 0, 1) := by decide +kernel
theorem dX0_copyFrom_16 : decode cX0_copyFrom 16 = .ok (.aload_n 1, 1) := by decide +kernel
theorem dX0_copyFrom_17 : decode cX0_copyFrom 17 = .ok (.getfield 13, 3) := by decide +kernel
theorem dX0_copyFrom_20 : decode cX0_copyFrom 20 = .ok (.putfield 13, 3) := by decide +kernel
theorem dX0_copyFrom_23 : decode cX0_copyFrom 23 = .ok (.aload_n 0, 1) := by decide +kernel
theorem dX0_copyFrom_24 : decode cX0_copyFrom 24 = .ok (.aload_n 1, 1) := by decide +kernel
theorem dX0_copyFrom_25 : decode cX0_copyFrom 25 = .ok (.getfield 17, 3) := by decide +kernel
theorem dX0_copyFrom_28 : decode cX0_copyFrom 28 = .ok (.putfield 17, 3) := by decide +kernel
theorem dX0_copyFrom_31 : decode cX0_copyFrom 31 = .ok (.aload_n 0, 1) := by decide +kernel
theorem dX0_copyFrom_32 : decode cX0_copyFrom 32 = .ok (.aload_n 1, 1) := by decide +kernel
theorem dX0_copyFrom_33 : decode cX0_copyFrom 33 = .ok (.getfield 20, 3) := by decide +kernel
theorem dX0_copyFrom_36 : decode cX0_copyFrom 36 = .ok (.putfield 20, 3) := by decide +kernel
theorem dX0_copyFrom_39 : decode cX0_copyFrom 39 = .ok (.aload_n 0, 1) := by decide +kernel
theorem dX0_copyFrom_40 : decode cX0_copyFrom 40 = .ok (.aload_n 1, 1) := by decide +kernel
theorem dX0_copyFrom_41 : decode cX0_copyFrom 41 = .ok (.getfield 23, 3) := by decide +kernel
theorem dX0_copyFrom_44 : decode cX0_copyFrom 44 = .ok (.putfield 23, 3) := by decide +kernel
theorem dX0_copyFrom_47 : decode cX0_copyFrom 47 = .ok (.aload_n 0, 1) := by decide +kernel
theorem dX0_copyFrom_48 : decode cX0_copyFrom 48 = .ok (.aload_n 1, 1) := by decide +kernel
theorem dX0_copyFrom_49 : decode cX0_copyFrom 49 = .ok (.getfield 26, 3) := by decide +kernel
theorem dX0_copyFrom_52 : decode cX0_copyFrom 52 = .ok (.putfield 26, 3) := by decide +kernel
theorem dX0_copyFrom_55 : decode cX0_copyFrom 55 = .ok (.aload_n 0, 1) := by decide +kernel
theorem dX0_copyFrom_56 : decode cX0_copyFrom 56 = .ok (.aload_n 1, 1) := by decide +kernel
theorem dX0_copyFrom_57 : decode cX0_copyFrom 57 = .ok (.getfield 29, 3) := by decide +kernel
theorem dX0_copyFrom_60 : decode cX0_copyFrom 60 = .ok (.putfield 29, 3) := by decide +kernel
theorem dX0_copyFrom_63 : decode cX0_copyFrom 63 = .ok (.aload_n 0, 1) := by decide +kernel
theorem dX0_copyFrom_64 : decode cX0_copyFrom 64 = .ok (.aload_n 1, 1) := by decide +kernel
theorem dX0_copyFrom_65 : decode cX0_copyFrom 65 = .ok (.getfield 32, 3) := by decide +kernel
theorem dX0_copyFrom_68 : decode cX0_copyFrom 68 = .ok (.putfield 32, 3) := by decide +kernel
theorem dX0_copyFrom_71 : decode cX0_copyFrom 71 = .ok (.aload_n 0, 1) := by decide +kernel
theorem dX0_copyFrom_72 : decode cX0_copyFrom 72 = .ok (.aload_n 1, 1) := by decide +kernel
theorem dX0_copyFrom_73 : decode cX0_copyFrom 73 = .ok (.getfield 35, 3) := by decide +kernel
theorem dX0_copyFrom_76 : decode cX0_copyFrom 76 = .ok (.putfield 35, 3) := by decide +kernel
theorem dX0_copyFrom_79 : decode cX0_copyFrom 79 = .ok (.aload_n 0, 1) := by decide +kernel
theorem dX0_copyFrom_80 : decode cX0_copyFrom 80 = .ok (.aload_n 1, 1) := by decide +kernel
theorem dX0_copyFrom_81 : decode cX0_copyFrom 81 = .ok (.getfield 39, 3) := by decide +kernel
theorem dX0_copyFrom_84 : decode cX0_copyFrom 84 = .ok (.putfield 39, 3) := by decide +kernel
theorem dX0_copyFrom_87 : decode cX0_copyFrom 87 = .ok (.aload_n 0, 1) := by decide +kernel
theorem dX0_copyFrom_88 : decode cX0_copyFrom 88 = .ok (.aload_n 1, 1) := by decide +kernel
theorem dX0_copyFrom_89 : decode cX0_copyFrom 89 = .ok (.getfield 42, 3) := by decide +kernel
theorem dX0_copyFrom_92 : decode cX0_copyFrom 92 = .ok (.putfield 42, 3) := by decide +kernel
theorem dX0_copyFrom_95 : decode cX0_copyFrom 95 = .ok (.aload_n 0, 1) := by decide +kernel
theorem dX0_copyFrom_96 : decode cX0_copyFrom 96 = .ok (.aload_n 1, 1) := by decide +kernel
theorem dX0_copyFrom_97 : decode cX0_copyFrom 97 = .ok (.getfield 45, 3) := by decide +kernel
theorem dX0_copyFrom_100 : decode cX0_copyFrom 100 = .ok (.putfield 45, 3) := by decide +kernel
theorem dX0_copyFrom_103 : decode cX0_copyFrom 103 = .ok (.return_, 1) := by decide +kernel
theorem dX0_isIn_0 : decode cX0_isIn 0 = .ok (.aload_n 0, 1) := by decide +kernel
theorem dX0_isIn_1 : decode cX0_isIn 1 = .ok (.getfield 35, 3) := by decide +kernel
theorem dX0_isIn_4 : decode cX0_isIn 4 = .ok (.ireturn, 1) := by decide +kernel
theorem dX0_time_0 : decode cX0_time 0 = .ok (.aload_n 0, 1) := by decide +kernel
theorem dX0_time_1 : decode cX0_time 1 = .ok (.getfield 35, 3) := by decide +kernel
theorem dX0_time_4 : decode cX0_time 4 = .ok (.ifCond .eq 17, 3) := by decide +kernel
theorem dX0_time_7 : decode cX0_time 7 = .ok (.aload_n 0, 1) := by decide +kernel
theorem dX0_time_8 : decode cX0_time 8 = .ok (.getfield 39, 3) := by decide +kernel
theorem dX0_time_11 : decode cX0_time 11 = .ok (.iconst 1, 1) := by decide +kernel
theorem dX0_time_12 : decode cX0_time 12 = .ok (.iadd, 1) := by decide +kernel
theorem dX0_time_13 : decode cX0_time 13 = .ok (.aload_n 0, 1) := by decide +kernel
theorem dX0_time_14 : decode cX0_time 14 = .ok (.getfield 32, 3) := by decide +kernel
theorem dX0_time_17 : decode cX0_time 17 = .ok (.iadd, 1) := by decide +kernel
theorem dX0_time_18 : decode cX0_time 18 = .ok (.goto 4, 3) := by decide +kernel
theorem dX0_time_21 : decode cX0_time 21 = .ok (.iconst (-1), 1) := by decide +kernel
theorem dX0_time_22 : decode cX0_time 22 = .ok (.ireturn, 1) := by decide +kernel
set_option maxRecDepth 20000 in
theorem ggX0_fact_X0_time : GoodIn wsX0_fact wsX0_time := goodIn_r _ [13, 6, 14, 5, 15, 16, 17, 18, 19, 20, 21, 22, 23, 24, 25, 26] (by decide +kernel) (by decide +kernel)
set_option maxRecDepth 20000 in
theorem gX0_fact_X0_time : GoodIn wsX0_fact (wsV RX0 58 RX0 yX0_time wsX0_time) := goodIn_app (goodIn_of _ (by decide +kernel)) ggX0_fact_X0_time
theorem dX0_fact_0 : decode cX0_fact 0 = .ok (.iload_n 1, 1) := by decide +kernel
theorem dX0_fact_1 : decode cX0_fact 1 = .ok (.tableswitch 95 0 7 #[47, 52, 57, 62, 67, 72, 85, 90], 47) := by decide +kernel
theorem dX0_fact_48 : decode cX0_fact 48 = .ok (.aload_n 0, 1) := by decide +kernel
theorem dX0_fact_49 : decode cX0_fact 49 = .ok (.getfield 20, 3) := by decide +kernel
theorem dX0_fact_52 : decode cX0_fact 52 = .ok (.ireturn, 1) := by decide +kernel
theorem dX0_fact_53 : decode cX0_fact 53 = .ok (.aload_n 0, 1) := by decide +kernel
theorem dX0_fact_54 : decode cX0_fact 54 = .ok (.getfield 23, 3) := by decide +kernel
theorem dX0_fact_57 : decode cX0_fact 57 = .ok (.ireturn, 1) := by decide +kernel
theorem dX0_fact_58 : decode cX0_fact 58 = .ok (.aload_n 0, 1) := by decide +kernel
theorem dX0_fact_59 : decode cX0_fact 59 = .ok (.getfield 26, 3) := by decide +kernel
theorem dX0_fact_62 : decode cX0_fact 62 = .ok (.ireturn, 1) := by decide +kernel
theorem dX0_fact_63 : decode cX0_fact 63 = .ok (.aload_n 0, 1) := by decide +kernel
theorem dX0_fact_64 : decode cX0_fact 64 = .ok (.getfield 29, 3) := by decide +kernel
theorem dX0_fact_67 : decode cX0_fact 67 = .ok (.ireturn, 1) := by decide +kernel
theorem dX0_fact_68 : decode cX0_fact 68 = .ok (.aload_n 0, 1) := by decide +kernel
theorem dX0_fact_69 : decode cX0_fact 69 = .ok (.getfield 32, 3) := by decide +kernel
theorem dX0_fact_72 : decode cX0_fact 72 = .ok (.ireturn, 1) := by decide +kernel
theorem dX0_fact_73 : decode cX0_fact 73 = .ok (.aload_n 0, 1) := by decide +kernel
theorem dX0_fact_74 : decode cX0_fact 74 = .ok (.getfield 35, 3) := by decide +kernel
theorem dX0_fact_77 : decode cX0_fact 77 = .ok (.ifCond .eq 7, 3) := by decide +kernel
theorem dX0_fact_80 : decode cX0_fact 80 = .ok (.iconst 1, 1) := by decide +kernel
theorem dX0_fact_81 : decode cX0_fact 81 = .ok (.goto 4, 3) := by decide +kernel
theorem dX0_fact_84 : decode cX0_fact 84 = .ok (.iconst 0, 1) := by decide +kernel
theorem dX0_fact_85 : decode cX0_fact 85 = .ok (.ireturn, 1) := by decide +kernel
theorem dX0_fact_86 : decode cX0_fact 86 = .ok (.aload_n 0, 1) := by decide +kernel
theorem dX0_fact_87 : decode cX0_fact 87 = .ok (.invokevirtual 58, 3) := by decide +kernel
theorem dX0_fact_90 : decode cX0_fact 90 = .ok (.ireturn, 1) := by decide +kernel
theorem dX0_fact_91 : decode cX0_fact 91 = .ok (.aload_n 0, 1) := by decide +kernel
theorem dX0_fact_92 : decode cX0_fact 92 = .ok (.getfield 42, 3) := by decide +kernel
theorem dX0_fact_95 : decode cX0_fact 95 = .ok (.ireturn, 1) := by decide +kernel
theorem dX0_fact_96 : decode cX0_fact 96 = .ok (.aload_n 0, 1) := by decide +kernel
theorem dX0_fact_97 : decode cX0_fact 97 = .ok (.getfield 45, 3) := by decide +kernel
theorem dX0_fact_100 : decode cX0_fact 100 = .ok (.ireturn, 1) := by decide +kernel
set_option maxRecDepth 20000 in
theorem ggX0_isAheadOf_X0_time : GoodIn wsX0_isAheadOf wsX0_time := goodIn_r _ [7, 1, 8, 9, 10, 11, 12, 13, 14, 15, 16, 17, 18, 19, 20, 21] (by decide +kernel) (by decide +kernel)
set_option maxRecDepth 20000 in
theorem gX0_isAheadOf_X0_time : GoodIn wsX0_isAheadOf (wsV RX0 58 RX0 yX0_time wsX0_time) := goodIn_app (goodIn_of _ (by decide +kernel)) ggX0_isAheadOf_X0_time
theorem dX0_isAheadOf_0 : decode cX0_isAheadOf 0 = .ok (.aload_n 0, 1) := by decide +kernel
theorem dX0_isAheadOf_1 : decode cX0_isAheadOf 1 = .ok (.getfield 35, 3) := by decide +kernel
theorem dX0_isAheadOf_4 : decode cX0_isAheadOf 4 = .ok (.ifCond .eq 27, 3) := by decide +kernel
theorem dX0_isAheadOf_7 : decode cX0_isAheadOf 7 = .ok (.aload_n 1, 1) := by decide +kernel
theorem dX0_isAheadOf_8 : decode cX0_isAheadOf 8 = .ok (.getfield 35, 3) := by decide +kernel
theorem dX0_isAheadOf_11 : decode cX0_isAheadOf 11 = .ok (.ifCond .eq 14, 3) := by decide +kernel
theorem dX0_isAheadOf_14 : decode cX0_isAheadOf 14 = .ok (.aload_n 0, 1) := by decide +kernel
theorem dX0_isAheadOf_15 : decode cX0_isAheadOf 15 = .ok (.invokevirtual 58, 3) := by decide +kernel
theorem dX0_isAheadOf_18 : decode cX0_isAheadOf 18 = .ok (.aload_n 1, 1) := by decide +kernel
theorem dX0_isAheadOf_19 : decode cX0_isAheadOf 19 = .ok (.invokevirtual 58, 3) := by decide +kernel
theorem dX0_isAheadOf_22 : decode cX0_isAheadOf 22 = .ok (.if_icmp .ge 7, 3) := by decide +kernel
theorem dX0_isAheadOf_25 : decode cX0_isAheadOf 25 = .ok (.iconst 1, 1) := by decide +kernel
theorem dX0_isAheadOf_26 : decode cX0_isAheadOf 26 = .ok (.goto 4, 3) := by decide +kernel
theorem dX0_isAheadOf_29 : decode cX0_isAheadOf 29 = .ok (.iconst 0, 1) := by decide +kernel
theorem dX0_isAheadOf_30 : decode cX0_isAheadOf 30 = .ok (.ireturn, 1) := by decide +kernel
theorem dX0_isAheadOf_31 : decode cX0_isAheadOf 31 = .ok (.aload_n 1, 1) := by decide +kernel
theorem dX0_isAheadOf_32 : decode cX0_isAheadOf 32 = .ok (.getfield 35, 3) := by decide +kernel
theorem dX0_isAheadOf_35 : decode cX0_isAheadOf 35 = .ok (.ifCond .ne 18, 3) := by decide +kernel
theorem dX0_isAheadOf_38 : decode cX0_isAheadOf 38 = .ok (.aload_n 0, 1) := by decide +kernel
theorem dX0_isAheadOf_39 : decode cX0_isAheadOf 39 = .ok (.getfield 20, 3) := by decide +kernel
theorem dX0_isAheadOf_42 : decode cX0_isAheadOf 42 = .ok (.aload_n 1, 1) := by decide +kernel
theorem dX0_isAheadOf_43 : decode cX0_isAheadOf 43 = .ok (.getfield 20, 3) := by decide +kernel
theorem dX0_isAheadOf_46 : decode cX0_isAheadOf 46 = .ok (.if_icmp .le 7, 3) := by decide +kernel
theorem dX0_isAheadOf_49 : decode cX0_isAheadOf 49 = .ok (.iconst 1, 1) := by decide +kernel
theorem dX0_isAheadOf_50 : decode cX0_isAheadOf 50 = .ok (.goto 4, 3) := by decide +kernel
theorem dX0_isAheadOf_53 : decode cX0_isAheadOf 53 = .ok (.iconst 0, 1) := by decide +kernel
theorem dX0_isAheadOf_54 : decode cX0_isAheadOf 54 = .ok (.ireturn, 1) := by decide +kernel
theorem dX0_takePattern_0 : decode cX0_takePattern 0 = .ok (.iload_n 1, 1) := by decide +kernel
theorem dX0_takePattern_1 : decode cX0_takePattern 1 = .ok (.iconst 1, 1) := by decide +kernel
theorem dX0_takePattern_2 : decode cX0_takePattern 2 = .ok (.if_icmp .lt 9, 3) := by decide +kernel
theorem dX0_takePattern_5 : decode cX0_takePattern 5 = .ok (.iload_n 1, 1) := by decide +kernel
theorem dX0_takePattern_6 : decode cX0_takePattern 6 = .ok (.bipush 6, 2) := by decide +kernel
theorem dX0_takePattern_8 : decode cX0_takePattern 8 = .ok (.if_icmp .le 4, 3) := by decide +kernel
theorem dX0_takePattern_11 : decode cX0_takePattern 11 = .ok (.return_, 1) := by decide +kernel
theorem dX0_takePattern_12 : decode cX0_takePattern 12 = .ok (.iload_n 2, 1) := by decide +kernel
theorem dX0_takePattern_13 : decode cX0_takePattern 13 = .ok (.istore_n 3, 1) := by decide +kernel
theorem dX0_takePattern_14 : decode cX0_takePattern 14 = .ok (.iload_n 1, 1) := by decide +kernel
theorem dX0_takePattern_15 : decode cX0_takePattern 15 = .ok (.iconst 1, 1) := by decide +kernel
theorem dX0_takePattern_16 : decode cX0_takePattern 16 = .ok (.isub, 1) := by decide +kernel
theorem dX0_takePattern_17 : decode cX0_takePattern 17 = .ok (.istore 4, 2) := by decide +kernel
theorem dX0_takePattern_19 : decode cX0_takePattern 19 = .ok (.iload 4, 2) := by decide +kernel
theorem dX0_takePattern_21 : decode cX0_takePattern 21 = .ok (.ifCond .lt 25, 3) := by decide +kernel
theorem dX0_takePattern_24 : decode cX0_takePattern 24 = .ok (.aload_n 0, 1) := by decide +kernel
theorem dX0_takePattern_25 : decode cX0_takePattern 25 = .ok (.getfield 9, 3) := by decide +kernel
theorem dX0_takePattern_28 : decode cX0_takePattern 28 = .ok (.iload 4, 2) := by decide +kernel
theorem dX0_takePattern_30 : decode cX0_takePattern 30 = .ok (.iload_n 3, 1) := by decide +kernel
theorem dX0_takePattern_31 : decode cX0_takePattern 31 = .ok (.bipush 10, 2) := by decide +kernel
theorem dX0_takePattern_33 : decode cX0_takePattern 33 = .ok (.irem, 1) := by decide +kernel
theorem dX0_takePattern_34 : decode cX0_takePattern 34 = .ok (.iastore, 1) := by decide +kernel
theorem dX0_takePattern_35 : decode cX0_takePattern 35 = .ok (.iload_n 3, 1) := by decide +kernel
theorem dX0_takePattern_36 : decode cX0_takePattern 36 = .ok (.bipush 10, 2) := by decide +kernel
theorem dX0_takePattern_38 : decode cX0_takePattern 38 = .ok (.idiv, 1) := by decide +kernel
theorem dX0_takePattern_39 : decode cX0_takePattern 39 = .ok (.istore_n 3, 1) := by decide +kernel
theorem dX0_takePattern_40 : decode cX0_takePattern 40 = .ok (.iinc 4 (-1), 3) := by decide +kernel
theorem dX0_takePattern_43 : decode cX0_takePattern 43 = .ok (.goto (-24), 3) := by decide +kernel
theorem dX0_takePattern_46 : decode cX0_takePattern 46 = .ok (.aload_n 0, 1) := by decide +kernel
theorem dX0_takePattern_47 : decode cX0_takePattern 47 = .ok (.iload_n 1, 1) := by decide +kernel
theorem dX0_takePattern_48 : decode cX0_takePattern 48 = .ok (.putfield 13, 3) := by decide +kernel
theorem dX0_takePattern_51 : decode cX0_takePattern 51 = .ok (.return_, 1) := by decide +kernel
theorem dX0_dryOut_0 : decode cX0_dryOut 0 = .ok (.aload_n 0, 1) := by decide +kernel
theorem dX0_dryOut_1 : decode cX0_dryOut 1 = .ok (.getfield 29, 3) := by decide +kernel
theorem dX0_dryOut_4 : decode cX0_dryOut 4 = .ok (.istore_n 1, 1) := by decide +kernel
theorem dX0_dryOut_5 : decode cX0_dryOut 5 = .ok (.aload_n 0, 1) := by decide +kernel
theorem dX0_dryOut_6 : decode cX0_dryOut 6 = .ok (.iconst 0, 1) := by decide +kernel
theorem dX0_dryOut_7 : decode cX0_dryOut 7 = .ok (.putfield 29, 3) := by decide +kernel
theorem dX0_dryOut_10 : decode cX0_dryOut 10 = .ok (.aload_n 0, 1) := by decide +kernel
theorem dX0_dryOut_11 : decode cX0_dryOut 11 = .ok (.dup, 1) := by decide +kernel
theorem dX0_dryOut_12 : decode cX0_dryOut 12 = .ok (.getfield 32, 3) := by decide +kernel
theorem dX0_dryOut_15 : decode cX0_dryOut 15 = .ok (.iconst 4, 1) := by decide +kernel
theorem dX0_dryOut_16 : decode cX0_dryOut 16 = .ok (.iadd, 1) := by decide +kernel
theorem dX0_dryOut_17 : decode cX0_dryOut 17 = .ok (.putfield 32, 3) := by decide +kernel
theorem dX0_dryOut_20 : decode cX0_dryOut 20 = .ok (.iload_n 1, 1) := by decide +kernel
theorem dX0_dryOut_21 : decode cX0_dryOut 21 = .ok (.ireturn, 1) := by decide +kernel
set_option maxRecDepth 20000 in
theorem ggX0_letTickGoBy_X0_strokeIn : GoodIn wsX0_letTickGoBy wsX0_strokeIn := goodIn_r _ [8, 9, 10, 11, 12, 13, 14, 64, 65, 66, 67, 68, 69, 70, 71, 72, 73, 74, 75] (by decide +kernel) (by decide +kernel)
set_option maxRecDepth 20000 in
theorem gX0_letTickGoBy_X0_strokeIn : GoodIn wsX0_letTickGoBy (wsV RX0 62 RX0 yX0_strokeIn wsX0_strokeIn) := goodIn_app (goodIn_of _ (by decide +kernel)) ggX0_letTickGoBy_X0_strokeIn
set_option maxRecDepth 20000 in
theorem ggX0_letTickGoBy_X0_forceOf : GoodIn wsX0_letTickGoBy wsX0_forceOf := goodIn_r _ [18, 19, 20, 21, 22, 23, 24, 25, 26, 27, 28, 7, 29, 30, 64, 65, 66, 67, 68, 69, 70, 71, 72, 73, 74, 75] (by decide +kernel) (by decide +kernel)
set_option maxRecDepth 20000 in
theorem gX0_letTickGoBy_X0_forceOf : GoodIn wsX0_letTickGoBy (wsV RX0 66 RX0 yX0_forceOf wsX0_forceOf) := goodIn_app (goodIn_of _ (by decide +kernel)) ggX0_letTickGoBy_X0_forceOf
set_option maxRecDepth 20000 in
theorem ggX0_letTickGoBy_X0_drift : GoodIn wsX0_letTickGoBy wsX0_drift := goodIn_r _ [34, 35, 19, 36, 37, 38, 39, 40, 64, 65, 66, 67, 68, 69, 70, 71, 72, 73, 74, 75] (by decide +kernel) (by decide +kernel)
set_option maxRecDepth 20000 in
theorem gX0_letTickGoBy_X0_drift : GoodIn wsX0_letTickGoBy (wsV RX0 69 RX0 yX0_drift wsX0_drift) := goodIn_app (goodIn_of _ (by decide +kernel)) ggX0_letTickGoBy_X0_drift
set_option maxRecDepth 20000 in
theorem ggX0_letTickGoBy_X0_advance : GoodIn wsX0_letTickGoBy wsX0_advance := goodIn_r _ [44, 35, 19, 45, 46, 24, 47, 48, 2, 49, 50, 51, 52, 37, 38, 39, 40, 53, 54, 55, 56, 57, 58, 59, 60, 61, 62, 7, 63, 21, 64, 65, 66, 67, 68, 69, 70, 71, 72, 73, 74, 75, 76, 77, 78, 79] (by decide +kernel) (by decide +kernel)
set_option maxRecDepth 20000 in
theorem gX0_letTickGoBy_X0_advance : GoodIn wsX0_letTickGoBy (wsV RX0 72 RX0 yX0_advance wsX0_advance) := goodIn_app (goodIn_of _ (by decide +kernel)) ggX0_letTickGoBy_X0_advance
set_option maxRecDepth 20000 in
theorem ggX0_letTickGoBy_X0_soak : GoodIn wsX0_letTickGoBy wsX0_soak := goodIn_r _ [63, 21, 49, 50, 24, 51, 64, 65, 66, 67, 68, 69, 70, 71, 72, 73, 74, 75] (by decide +kernel) (by decide +kernel)
set_option maxRecDepth 20000 in
theorem gX0_letTickGoBy_X0_soak : GoodIn wsX0_letTickGoBy (wsV RX0 76 RX0 yX0_soak wsX0_soak) := goodIn_app (goodIn_of _ (by decide +kernel)) ggX0_letTickGoBy_X0_soak
theorem dX0_letTickGoBy_0 : decode cX0_letTickGoBy 0 = .ok (.aload_n 0, 1) := by decide +kernel
theorem dX0_letTickGoBy_1 : decode cX0_letTickGoBy 1 = .ok (.getfield 35, 3) := by decide +kernel
theorem dX0_letTickGoBy_4 : decode cX0_letTickGoBy 4 = .ok (.ifCond .eq 4, 3) := by decide +kernel
theorem dX0_letTickGoBy_7 : decode cX0_letTickGoBy 7 = .ok (.return_, 1) := by decide +kernel
theorem dX0_letTickGoBy_8 : decode cX0_letTickGoBy 8 = .ok (.aload_n 0, 1) := by decide +kernel
theorem dX0_letTickGoBy_9 : decode cX0_letTickGoBy 9 = .ok (.aload_n 0, 1) := by decide +kernel
theorem dX0_letTickGoBy_10 : decode cX0_letTickGoBy 10 = .ok (.iload_n 2, 1) := by decide +kernel
theorem dX0_letTickGoBy_11 : decode cX0_letTickGoBy 11 = .ok (.invokevirtual 62, 3) := by decide +kernel
theorem dX0_letTickGoBy_14 : decode cX0_letTickGoBy 14 = .ok (.invokevirtual 66, 3) := by decide +kernel
theorem dX0_letTickGoBy_17 : decode cX0_letTickGoBy 17 = .ok (.istore_n 3, 1) := by decide +kernel
theorem dX0_letTickGoBy_18 : decode cX0_letTickGoBy 18 = .ok (.aload_n 0, 1) := by decide +kernel
theorem dX0_letTickGoBy_19 : decode cX0_letTickGoBy 19 = .ok (.invokevirtual 69, 3) := by decide +kernel
theorem dX0_letTickGoBy_22 : decode cX0_letTickGoBy 22 = .ok (.aload_n 0, 1) := by decide +kernel
theorem dX0_letTickGoBy_23 : decode cX0_letTickGoBy 23 = .ok (.aload_n 1, 1) := by decide +kernel
theorem dX0_letTickGoBy_24 : decode cX0_letTickGoBy 24 = .ok (.iload_n 3, 1) := by decide +kernel
theorem dX0_letTickGoBy_25 : decode cX0_letTickGoBy 25 = .ok (.invokevirtual 72, 3) := by decide +kernel
theorem dX0_letTickGoBy_28 : decode cX0_letTickGoBy 28 = .ok (.iload_n 2, 1) := by decide +kernel
theorem dX0_letTickGoBy_29 : decode cX0_letTickGoBy 29 = .ok (.iconst 4, 1) := by decide +kernel
theorem dX0_letTickGoBy_30 : decode cX0_letTickGoBy 30 = .ok (.irem, 1) := by decide +kernel
theorem dX0_letTickGoBy_31 : decode cX0_letTickGoBy 31 = .ok (.ifCond .ne 8, 3) := by decide +kernel
theorem dX0_letTickGoBy_34 : decode cX0_letTickGoBy 34 = .ok (.aload_n 0, 1) := by decide +kernel
theorem dX0_letTickGoBy_35 : decode cX0_letTickGoBy 35 = .ok (.iconst 1, 1) := by decide +kernel
theorem dX0_letTickGoBy_36 : decode cX0_letTickGoBy 36 = .ok (.invokevirtual 76, 3) := by decide +kernel
theorem dX0_letTickGoBy_39 : decode cX0_letTickGoBy 39 = .ok (.aload_n 0, 1) := by decide +kernel
theorem dX0_letTickGoBy_40 : decode cX0_letTickGoBy 40 = .ok (.getfield 20, 3) := by decide +kernel
theorem dX0_letTickGoBy_43 : decode cX0_letTickGoBy 43 = .ok (.sipush 200, 3) := by decide +kernel
theorem dX0_letTickGoBy_46 : decode cX0_letTickGoBy 46 = .ok (.if_icmp .ne 13, 3) := by decide +kernel
theorem dX0_letTickGoBy_49 : decode cX0_letTickGoBy 49 = .ok (.aload_n 0, 1) := by decide +kernel
theorem dX0_letTickGoBy_50 : decode cX0_letTickGoBy 50 = .ok (.iconst 1, 1) := by decide +kernel
theorem dX0_letTickGoBy_51 : decode cX0_letTickGoBy 51 = .ok (.putfield 35, 3) := by decide +kernel
theorem dX0_letTickGoBy_54 : decode cX0_letTickGoBy 54 = .ok (.aload_n 0, 1) := by decide +kernel
theorem dX0_letTickGoBy_55 : decode cX0_letTickGoBy 55 = .ok (.iload_n 2, 1) := by decide +kernel
theorem dX0_letTickGoBy_56 : decode cX0_letTickGoBy 56 = .ok (.putfield 39, 3) := by decide +kernel
theorem dX0_letTickGoBy_59 : decode cX0_letTickGoBy 59 = .ok (.return_, 1) := by decide +kernel
set_option maxRecDepth 20000 in
theorem ggX0_strokeIn_J9_floorMod_7cf53 : GoodIn wsX0_strokeIn wsJ9_floorMod_7cf53 := goodIn_r _ [6] (by decide +kernel) (by decide +kernel)
set_option maxRecDepth 20000 in
theorem gX0_strokeIn_J9_floorMod_7cf53 : GoodIn wsX0_strokeIn (va_wsS RX0 82 yJ9_floorMod_7cf53 wsJ9_floorMod_7cf53) := goodIn_app (goodIn_of _ (by decide +kernel)) ggX0_strokeIn_J9_floorMod_7cf53
theorem dX0_strokeIn_0 : decode cX0_strokeIn 0 = .ok (.aload_n 0, 1) := by decide +kernel
theorem dX0_strokeIn_1 : decode cX0_strokeIn 1 = .ok (.getfield 13, 3) := by decide +kernel
theorem dX0_strokeIn_4 : decode cX0_strokeIn 4 = .ok (.iconst 1, 1) := by decide +kernel
theorem dX0_strokeIn_5 : decode cX0_strokeIn 5 = .ok (.if_icmp .lt 12, 3) := by decide +kernel
theorem dX0_strokeIn_8 : decode cX0_strokeIn 8 = .ok (.aload_n 0, 1) := by decide +kernel
theorem dX0_strokeIn_9 : decode cX0_strokeIn 9 = .ok (.getfield 13, 3) := by decide +kernel
theorem dX0_strokeIn_12 : decode cX0_strokeIn 12 = .ok (.bipush 6, 2) := by decide +kernel
theorem dX0_strokeIn_14 : decode cX0_strokeIn 14 = .ok (.if_icmp .le 5, 3) := by decide +kernel
theorem dX0_strokeIn_17 : decode cX0_strokeIn 17 = .ok (.iconst 0, 1) := by decide +kernel
theorem dX0_strokeIn_18 : decode cX0_strokeIn 18 = .ok (.ireturn, 1) := by decide +kernel
theorem dX0_strokeIn_19 : decode cX0_strokeIn 19 = .ok (.aload_n 0, 1) := by decide +kernel
theorem dX0_strokeIn_20 : decode cX0_strokeIn 20 = .ok (.getfield 9, 3) := by decide +kernel
theorem dX0_strokeIn_23 : decode cX0_strokeIn 23 = .ok (.iload_n 1, 1) := by decide +kernel
theorem dX0_strokeIn_24 : decode cX0_strokeIn 24 = .ok (.aload_n 0, 1) := by decide +kernel
theorem dX0_strokeIn_25 : decode cX0_strokeIn 25 = .ok (.getfield 13, 3) := by decide +kernel
theorem dX0_strokeIn_28 : decode cX0_strokeIn 28 = .ok (.invokestatic 82, 3) := by decide +kernel
theorem dX0_strokeIn_31 : decode cX0_strokeIn 31 = .ok (.iaload, 1) := by decide +kernel
theorem dX0_strokeIn_32 : decode cX0_strokeIn 32 = .ok (.ireturn, 1) := by decide +kernel
set_option maxRecDepth 20000 in
theorem ggX0_forceOf_X0_pushOf : GoodIn wsX0_forceOf wsX0_pushOf := goodIn_r _ [12, 13, 14, 15, 16, 17, 18, 19, 20, 21, 22, 23, 24, 25] (by decide +kernel) (by decide +kernel)
set_option maxRecDepth 20000 in
theorem gX0_forceOf_X0_pushOf : GoodIn wsX0_forceOf (wsV RX0 88 RX0 yX0_pushOf wsX0_pushOf) := goodIn_app (goodIn_of _ (by decide +kernel)) ggX0_forceOf_X0_pushOf
theorem dX0_forceOf_0 : decode cX0_forceOf 0 = .ok (.iload_n 1, 1) := by decide +kernel
theorem dX0_forceOf_1 : decode cX0_forceOf 1 = .ok (.iconst 1, 1) := by decide +kernel
theorem dX0_forceOf_2 : decode cX0_forceOf 2 = .ok (.if_icmp .ne 16, 3) := by decide +kernel
theorem dX0_forceOf_5 : decode cX0_forceOf 5 = .ok (.aload_n 0, 1) := by decide +kernel
theorem dX0_forceOf_6 : decode cX0_forceOf 6 = .ok (.dup, 1) := by decide +kernel
theorem dX0_forceOf_7 : decode cX0_forceOf 7 = .ok (.getfield 26, 3) := by decide +kernel
theorem dX0_forceOf_10 : decode cX0_forceOf 10 = .ok (.iconst 1, 1) := by decide +kernel
theorem dX0_forceOf_11 : decode cX0_forceOf 11 = .ok (.iadd, 1) := by decide +kernel
theorem dX0_forceOf_12 : decode cX0_forceOf 12 = .ok (.putfield 26, 3) := by decide +kernel
theorem dX0_forceOf_15 : decode cX0_forceOf 15 = .ok (.goto 18, 3) := by decide +kernel
theorem dX0_forceOf_18 : decode cX0_forceOf 18 = .ok (.iload_n 1, 1) := by decide +kernel
theorem dX0_forceOf_19 : decode cX0_forceOf 19 = .ok (.iconst 2, 1) := by decide +kernel
theorem dX0_forceOf_20 : decode cX0_forceOf 20 = .ok (.if_icmp .ne 13, 3) := by decide +kernel
theorem dX0_forceOf_23 : decode cX0_forceOf 23 = .ok (.aload_n 0, 1) := by decide +kernel
theorem dX0_forceOf_24 : decode cX0_forceOf 24 = .ok (.dup, 1) := by decide +kernel
theorem dX0_forceOf_25 : decode cX0_forceOf 25 = .ok (.getfield 26, 3) := by decide +kernel
theorem dX0_forceOf_28 : decode cX0_forceOf 28 = .ok (.iconst 1, 1) := by decide +kernel
theorem dX0_forceOf_29 : decode cX0_forceOf 29 = .ok (.isub, 1) := by decide +kernel
theorem dX0_forceOf_30 : decode cX0_forceOf 30 = .ok (.putfield 26, 3) := by decide +kernel
theorem dX0_forceOf_33 : decode cX0_forceOf 33 = .ok (.aload_n 0, 1) := by decide +kernel
theorem dX0_forceOf_34 : decode cX0_forceOf 34 = .ok (.getfield 26, 3) := by decide +kernel
theorem dX0_forceOf_37 : decode cX0_forceOf 37 = .ok (.iconst 4, 1) := by decide +kernel
theorem dX0_forceOf_38 : decode cX0_forceOf 38 = .ok (.if_icmp .gt 12, 3) := by decide +kernel
theorem dX0_forceOf_41 : decode cX0_forceOf 41 = .ok (.aload_n 0, 1) := by decide +kernel
theorem dX0_forceOf_42 : decode cX0_forceOf 42 = .ok (.getfield 26, 3) := by decide +kernel
theorem dX0_forceOf_45 : decode cX0_forceOf 45 = .ok (.bipush (-4), 2) := by decide +kernel
theorem dX0_forceOf_47 : decode cX0_forceOf 47 = .ok (.if_icmp .ge 20, 3) := by decide +kernel
theorem dX0_forceOf_50 : decode cX0_forceOf 50 = .ok (.aload_n 0, 1) := by decide +kernel
theorem dX0_forceOf_51 : decode cX0_forceOf 51 = .ok (.iconst 0, 1) := by decide +kernel
theorem dX0_forceOf_52 : decode cX0_forceOf 52 = .ok (.putfield 26, 3) := by decide +kernel
theorem dX0_forceOf_55 : decode cX0_forceOf 55 = .ok (.aload_n 0, 1) := by decide +kernel
theorem dX0_forceOf_56 : decode cX0_forceOf 56 = .ok (.dup, 1) := by decide +kernel
theorem dX0_forceOf_57 : decode cX0_forceOf 57 = .ok (.getfield 42, 3) := by decide +kernel
theorem dX0_forceOf_60 : decode cX0_forceOf 60 = .ok (.iconst 1, 1) := by decide +kernel
theorem dX0_forceOf_61 : decode cX0_forceOf 61 = .ok (.iadd, 1) := by decide +kernel
theorem dX0_forceOf_62 : decode cX0_forceOf 62 = .ok (.putfield 42, 3) := by decide +kernel
theorem dX0_forceOf_65 : decode cX0_forceOf 65 = .ok (.iconst 0, 1) := by decide +kernel
theorem dX0_forceOf_66 : decode cX0_forceOf 66 = .ok (.ireturn, 1) := by decide +kernel
theorem dX0_forceOf_67 : decode cX0_forceOf 67 = .ok (.iconst 0, 1) := by decide +kernel
theorem dX0_forceOf_68 : decode cX0_forceOf 68 = .ok (.aload_n 0, 1) := by decide +kernel
theorem dX0_forceOf_69 : decode cX0_forceOf 69 = .ok (.iload_n 1, 1) := by decide +kernel
theorem dX0_forceOf_70 : decode cX0_forceOf 70 = .ok (.invokevirtual 88, 3) := by decide +kernel
theorem dX0_forceOf_73 : decode cX0_forceOf 73 = .ok (.aload_n 0, 1) := by decide +kernel
theorem dX0_forceOf_74 : decode cX0_forceOf 74 = .ok (.getfield 29, 3) := by decide +kernel
theorem dX0_forceOf_77 : decode cX0_forceOf 77 = .ok (.bipush 6, 2) := by decide +kernel
theorem dX0_forceOf_79 : decode cX0_forceOf 79 = .ok (.idiv, 1) := by decide +kernel
theorem dX0_forceOf_80 : decode cX0_forceOf 80 = .ok (.isub, 1) := by decide +kernel
theorem dX0_forceOf_81 : decode cX0_forceOf 81 = .ok (.invokestatic 91, 3) := by decide +kernel
theorem dX0_forceOf_84 : decode cX0_forceOf 84 = .ok (.ireturn, 1) := by decide +kernel
theorem dX0_pushOf_0 : decode cX0_pushOf 0 = .ok (.iload_n 1, 1) := by decide +kernel
theorem dX0_pushOf_1 : decode cX0_pushOf 1 = .ok (.iconst 3, 1) := by decide +kernel
theorem dX0_pushOf_2 : decode cX0_pushOf 2 = .ok (.if_icmp .ne 8, 3) := by decide +kernel
theorem dX0_pushOf_5 : decode cX0_pushOf 5 = .ok (.aload_n 0, 1) := by decide +kernel
theorem dX0_pushOf_6 : decode cX0_pushOf 6 = .ok (.getfield 17, 3) := by decide +kernel
theorem dX0_pushOf_9 : decode cX0_pushOf 9 = .ok (.ireturn, 1) := by decide +kernel
theorem dX0_pushOf_10 : decode cX0_pushOf 10 = .ok (.iload_n 1, 1) := by decide +kernel
theorem dX0_pushOf_11 : decode cX0_pushOf 11 = .ok (.ifCond .ne 7, 3) := by decide +kernel
theorem dX0_pushOf_14 : decode cX0_pushOf 14 = .ok (.iconst 0, 1) := by decide +kernel
theorem dX0_pushOf_15 : decode cX0_pushOf 15 = .ok (.goto 9, 3) := by decide +kernel
theorem dX0_pushOf_18 : decode cX0_pushOf 18 = .ok (.aload_n 0, 1) := by decide +kernel
theorem dX0_pushOf_19 : decode cX0_pushOf 19 = .ok (.getfield 17, 3) := by decide +kernel
theorem dX0_pushOf_22 : decode cX0_pushOf 22 = .ok (.iconst 2, 1) := by decide +kernel
theorem dX0_pushOf_23 : decode cX0_pushOf 23 = .ok (.idiv, 1) := by decide +kernel
theorem dX0_pushOf_24 : decode cX0_pushOf 24 = .ok (.ireturn, 1) := by decide +kernel
set_option maxRecDepth 20000 in
theorem ggX0_drift_X2_isLane : GoodIn wsX0_drift wsX2_isLane := goodIn_r _ [7] (by decide +kernel) (by decide +kernel)
set_option maxRecDepth 20000 in
theorem gX0_drift_X2_isLane : GoodIn wsX0_drift (va_wsS RX0 94 yX2_isLane wsX2_isLane) := goodIn_app (goodIn_of _ (by decide +kernel)) ggX0_drift_X2_isLane
theorem dX0_drift_0 : decode cX0_drift 0 = .ok (.aload_n 0, 1) := by decide +kernel
theorem dX0_drift_1 : decode cX0_drift 1 = .ok (.getfield 23, 3) := by decide +kernel
theorem dX0_drift_4 : decode cX0_drift 4 = .ok (.istore_n 1, 1) := by decide +kernel
theorem dX0_drift_5 : decode cX0_drift 5 = .ok (.aload_n 0, 1) := by decide +kernel
theorem dX0_drift_6 : decode cX0_drift 6 = .ok (.getfield 26, 3) := by decide +kernel
theorem dX0_drift_9 : decode cX0_drift 9 = .ok (.iconst 2, 1) := by decide +kernel
theorem dX0_drift_10 : decode cX0_drift 10 = .ok (.if_icmp .lt 13, 3) := by decide +kernel
theorem dX0_drift_13 : decode cX0_drift 13 = .ok (.aload_n 0, 1) := by decide +kernel
theorem dX0_drift_14 : decode cX0_drift 14 = .ok (.getfield 23, 3) := by decide +kernel
theorem dX0_drift_17 : decode cX0_drift 17 = .ok (.iconst 1, 1) := by decide +kernel
theorem dX0_drift_18 : decode cX0_drift 18 = .ok (.iadd, 1) := by decide +kernel
theorem dX0_drift_19 : decode cX0_drift 19 = .ok (.istore_n 1, 1) := by decide +kernel
theorem dX0_drift_20 : decode cX0_drift 20 = .ok (.goto 19, 3) := by decide +kernel
theorem dX0_drift_23 : decode cX0_drift 23 = .ok (.aload_n 0, 1) := by decide +kernel
theorem dX0_drift_24 : decode cX0_drift 24 = .ok (.getfield 26, 3) := by decide +kernel
theorem dX0_drift_27 : decode cX0_drift 27 = .ok (.bipush (-2), 2) := by decide +kernel
theorem dX0_drift_29 : decode cX0_drift 29 = .ok (.if_icmp .gt 10, 3) := by decide +kernel
theorem dX0_drift_32 : decode cX0_drift 32 = .ok (.aload_n 0, 1) := by decide +kernel
theorem dX0_drift_33 : decode cX0_drift 33 = .ok (.getfield 23, 3) := by decide +kernel
theorem dX0_drift_36 : decode cX0_drift 36 = .ok (.iconst 1, 1) := by decide +kernel
theorem dX0_drift_37 : decode cX0_drift 37 = .ok (.isub, 1) := by decide +kernel
theorem dX0_drift_38 : decode cX0_drift 38 = .ok (.istore_n 1, 1) := by decide +kernel
theorem dX0_drift_39 : decode cX0_drift 39 = .ok (.iload_n 1, 1) := by decide +kernel
theorem dX0_drift_40 : decode cX0_drift 40 = .ok (.invokestatic 94, 3) := by decide +kernel
theorem dX0_drift_43 : decode cX0_drift 43 = .ok (.ifCond .eq 11, 3) := by decide +kernel
theorem dX0_drift_46 : decode cX0_drift 46 = .ok (.aload_n 0, 1) := by decide +kernel
theorem dX0_drift_47 : decode cX0_drift 47 = .ok (.iload_n 1, 1) := by decide +kernel
theorem dX0_drift_48 : decode cX0_drift 48 = .ok (.putfield 23, 3) := by decide +kernel
theorem dX0_drift_51 : decode cX0_drift 51 = .ok (.goto 13, 3) := by decide +kernel
theorem dX0_drift_54 : decode cX0_drift 54 = .ok (.aload_n 0, 1) := by decide +kernel
theorem dX0_drift_55 : decode cX0_drift 55 = .ok (.dup, 1) := by decide +kernel
theorem dX0_drift_56 : decode cX0_drift 56 = .ok (.getfield 32, 3) := by decide +kernel
theorem dX0_drift_59 : decode cX0_drift 59 = .ok (.iconst 3, 1) := by decide +kernel
theorem dX0_drift_60 : decode cX0_drift 60 = .ok (.iadd, 1) := by decide +kernel
theorem dX0_drift_61 : decode cX0_drift 61 = .ok (.putfield 32, 3) := by decide +kernel
theorem dX0_drift_64 : decode cX0_drift 64 = .ok (.return_, 1) := by decide +kernel
set_option maxRecDepth 20000 in
theorem ggX0_advance_X2_isLane : GoodIn wsX0_advance wsX2_isLane := goodIn_r _ [16] (by decide +kernel) (by decide +kernel)
set_option maxRecDepth 20000 in
theorem gX0_advance_X2_isLane : GoodIn wsX0_advance (va_wsS RX0 94 yX2_isLane wsX2_isLane) := goodIn_app (goodIn_of _ (by decide +kernel)) ggX0_advance_X2_isLane
set_option maxRecDepth 20000 in
theorem ggX0_advance_X2_firstStop : GoodIn wsX0_advance wsX2_firstStop := goodIn_r _ [20, 21, 22, 23, 42, 43, 44, 45] (by decide +kernel) (by decide +kernel)
set_option maxRecDepth 20000 in
theorem gX0_advance_X2_firstStop : GoodIn wsX0_advance (wsV RX0 104 RX2 yX2_firstStop wsX2_firstStop) := goodIn_app (goodIn_of _ (by decide +kernel)) ggX0_advance_X2_firstStop
set_option maxRecDepth 20000 in
theorem ggX0_advance_X0_soak : GoodIn wsX0_advance wsX0_soak := goodIn_r _ [28, 29, 9, 10, 5, 11, 30, 31, 32, 33, 34, 35, 36, 37, 38, 39, 40, 41] (by decide +kernel) (by decide +kernel)
set_option maxRecDepth 20000 in
theorem gX0_advance_X0_soak : GoodIn wsX0_advance (wsV RX0 76 RX0 yX0_soak wsX0_soak) := goodIn_app (goodIn_of _ (by decide +kernel)) ggX0_advance_X0_soak
theorem dX0_advance_0 : decode cX0_advance 0 = .ok (.aload_n 0, 1) := by decide +kernel
theorem dX0_advance_1 : decode cX0_advance 1 = .ok (.getfield 23, 3) := by decide +kernel
theorem dX0_advance_4 : decode cX0_advance 4 = .ok (.invokestatic 94, 3) := by decide +kernel
theorem dX0_advance_7 : decode cX0_advance 7 = .ok (.ifCond .ne 4, 3) := by decide +kernel
theorem dX0_advance_10 : decode cX0_advance 10 = .ok (.return_, 1) := by decide +kernel
theorem dX0_advance_11 : decode cX0_advance 11 = .ok (.iload_n 2, 1) := by decide +kernel
theorem dX0_advance_12 : decode cX0_advance 12 = .ok (.iconst 4, 1) := by decide +kernel
theorem dX0_advance_13 : decode cX0_advance 13 = .ok (.aload_n 0, 1) := by decide +kernel
theorem dX0_advance_14 : decode cX0_advance 14 = .ok (.getfield 26, 3) := by decide +kernel
theorem dX0_advance_17 : decode cX0_advance 17 = .ok (.invokestatic 98, 3) := by decide +kernel
theorem dX0_advance_20 : decode cX0_advance 20 = .ok (.isub, 1) := by decide +kernel
theorem dX0_advance_21 : decode cX0_advance 21 = .ok (.imul, 1) := by decide +kernel
theorem dX0_advance_22 : decode cX0_advance 22 = .ok (.iconst 4, 1) := by decide +kernel
theorem dX0_advance_23 : decode cX0_advance 23 = .ok (.idiv, 1) := by decide +kernel
theorem dX0_advance_24 : decode cX0_advance 24 = .ok (.aload_n 1, 1) := by decide +kernel
theorem dX0_advance_25 : decode cX0_advance 25 = .ok (.getfield 101, 3) := by decide +kernel
theorem dX0_advance_28 : decode cX0_advance 28 = .ok (.aload_n 0, 1) := by decide +kernel
theorem dX0_advance_29 : decode cX0_advance 29 = .ok (.getfield 23, 3) := by decide +kernel
theorem dX0_advance_32 : decode cX0_advance 32 = .ok (.iaload, 1) := by decide +kernel
theorem dX0_advance_33 : decode cX0_advance 33 = .ok (.iadd, 1) := by decide +kernel
theorem dX0_advance_34 : decode cX0_advance 34 = .ok (.istore_n 3, 1) := by decide +kernel
theorem dX0_advance_35 : decode cX0_advance 35 = .ok (.aload_n 1, 1) := by decide +kernel
theorem dX0_advance_36 : decode cX0_advance 36 = .ok (.aload_n 0, 1) := by decide +kernel
theorem dX0_advance_37 : decode cX0_advance 37 = .ok (.getfield 20, 3) := by decide +kernel
theorem dX0_advance_40 : decode cX0_advance 40 = .ok (.aload_n 0, 1) := by decide +kernel
theorem dX0_advance_41 : decode cX0_advance 41 = .ok (.getfield 20, 3) := by decide +kernel
theorem dX0_advance_44 : decode cX0_advance 44 = .ok (.iload_n 3, 1) := by decide +kernel
theorem dX0_advance_45 : decode cX0_advance 45 = .ok (.iadd, 1) := by decide +kernel
theorem dX0_advance_46 : decode cX0_advance 46 = .ok (.aload_n 0, 1) := by decide +kernel
theorem dX0_advance_47 : decode cX0_advance 47 = .ok (.getfield 23, 3) := by decide +kernel
theorem dX0_advance_50 : decode cX0_advance 50 = .ok (.invokevirtual 104, 3) := by decide +kernel
theorem dX0_advance_53 : decode cX0_advance 53 = .ok (.istore 4, 2) := by decide +kernel
theorem dX0_advance_55 : decode cX0_advance 55 = .ok (.iload 4, 2) := by decide +kernel
theorem dX0_advance_57 : decode cX0_advance 57 = .ok (.iconst (-1), 1) := by decide +kernel
theorem dX0_advance_58 : decode cX0_advance 58 = .ok (.if_icmp .ne 20, 3) := by decide +kernel
theorem dX0_advance_61 : decode cX0_advance 61 = .ok (.aload_n 0, 1) := by decide +kernel
theorem dX0_advance_62 : decode cX0_advance 62 = .ok (.aload_n 0, 1) := by decide +kernel
theorem dX0_advance_63 : decode cX0_advance 63 = .ok (.getfield 20, 3) := by decide +kernel
theorem dX0_advance_66 : decode cX0_advance 66 = .ok (.iload_n 3, 1) := by decide +kernel
theorem dX0_advance_67 : decode cX0_advance 67 = .ok (.iadd, 1) := by decide +kernel
theorem dX0_advance_68 : decode cX0_advance 68 = .ok (.sipush 200, 3) := by decide +kernel
theorem dX0_advance_71 : decode cX0_advance 71 = .ok (.invokestatic 108, 3) := by decide +kernel
theorem dX0_advance_74 : decode cX0_advance 74 = .ok (.putfield 20, 3) := by decide +kernel
theorem dX0_advance_77 : decode cX0_advance 77 = .ok (.return_, 1) := by decide +kernel
theorem dX0_advance_78 : decode cX0_advance 78 = .ok (.aload_n 0, 1) := by decide +kernel
theorem dX0_advance_79 : decode cX0_advance 79 = .ok (.iload 4, 2) := by decide +kernel
theorem dX0_advance_81 : decode cX0_advance 81 = .ok (.putfield 20, 3) := by decide +kernel
theorem dX0_advance_84 : decode cX0_advance 84 = .ok (.aload_n 0, 1) := by decide +kernel
theorem dX0_advance_85 : decode cX0_advance 85 = .ok (.iconst 0, 1) := by decide +kernel
theorem dX0_advance_86 : decode cX0_advance 86 = .ok (.putfield 26, 3) := by decide +kernel
theorem dX0_advance_89 : decode cX0_advance 89 = .ok (.aload_n 0, 1) := by decide +kernel
theorem dX0_advance_90 : decode cX0_advance 90 = .ok (.iconst 5, 1) := by decide +kernel
theorem dX0_advance_91 : decode cX0_advance 91 = .ok (.invokevirtual 76, 3) := by decide +kernel
theorem dX0_advance_94 : decode cX0_advance 94 = .ok (.aload_n 0, 1) := by decide +kernel
theorem dX0_advance_95 : decode cX0_advance 95 = .ok (.dup, 1) := by decide +kernel
theorem dX0_advance_96 : decode cX0_advance 96 = .ok (.getfield 45, 3) := by decide +kernel
theorem dX0_advance_99 : decode cX0_advance 99 = .ok (.iconst 1, 1) := by decide +kernel
theorem dX0_advance_100 : decode cX0_advance 100 = .ok (.iadd, 1) := by decide +kernel
theorem dX0_advance_101 : decode cX0_advance 101 = .ok (.putfield 45, 3) := by decide +kernel
theorem dX0_advance_104 : decode cX0_advance 104 = .ok (.return_, 1) := by decide +kernel
theorem dX0_soak_0 : decode cX0_soak 0 = .ok (.aload_n 0, 1) := by decide +kernel
theorem dX0_soak_1 : decode cX0_soak 1 = .ok (.aload_n 0, 1) := by decide +kernel
theorem dX0_soak_2 : decode cX0_soak 2 = .ok (.getfield 29, 3) := by decide +kernel
theorem dX0_soak_5 : decode cX0_soak 5 = .ok (.iload_n 1, 1) := by decide +kernel
theorem dX0_soak_6 : decode cX0_soak 6 = .ok (.iadd, 1) := by decide +kernel
theorem dX0_soak_7 : decode cX0_soak 7 = .ok (.bipush 30, 2) := by decide +kernel
theorem dX0_soak_9 : decode cX0_soak 9 = .ok (.invokestatic 108, 3) := by decide +kernel
theorem dX0_soak_12 : decode cX0_soak 12 = .ok (.putfield 29, 3) := by decide +kernel
theorem dX0_soak_15 : decode cX0_soak 15 = .ok (.return_, 1) := by decide +kernel
set_option maxRecDepth 20000 in
theorem ggX1_init_X0_init : GoodIn wsX1_init wsX0_init := goodIn_r _ [11, 12, 2, 3, 13, 14, 15, 16, 17, 18, 19, 20, 21, 22, 23, 24, 25, 29, 30, 31, 32, 33, 34, 35, 36, 37, 38, 39, 40] (by decide +kernel) (by decide +kernel)
set_option maxRecDepth 20000 in
theorem gX1_init_X0_init_n22 : GoodIn wsX1_init (wsX0_init) := ggX1_init_X0_init
theorem dX1_init_0 : decode cX1_init 0 = .ok (.aload_n 0, 1) := by decide +kernel
theorem dX1_init_1 : decode cX1_init 1 = .ok (.invokespecial 1, 3) := by decide +kernel
theorem dX1_init_4 : decode cX1_init 4 = .ok (.aload_n 0, 1) := by decide +kernel
theorem dX1_init_5 : decode cX1_init 5 = .ok (.bipush 6, 2) := by decide +kernel
theorem dX1_init_7 : decode cX1_init 7 = .ok (.anewarray 9, 3) := by decide +kernel
theorem dX1_init_10 : decode cX1_init 10 = .ok (.putfield 11, 3) := by decide +kernel
theorem dX1_init_13 : decode cX1_init 13 = .ok (.aload_n 0, 1) := by decide +kernel
theorem dX1_init_14 : decode cX1_init 14 = .ok (.iconst 0, 1) := by decide +kernel
theorem dX1_init_15 : decode cX1_init 15 = .ok (.putfield 15, 3) := by decide +kernel
theorem dX1_init_18 : decode cX1_init 18 = .ok (.aload_n 0, 1) := by decide +kernel
theorem dX1_init_19 : decode cX1_init 19 = .ok (.iconst 0, 1) := by decide +kernel
theorem dX1_init_20 : decode cX1_init 20 = .ok (.putfield 19, 3) := by decide +kernel
theorem dX1_init_23 : decode cX1_init 23 = .ok (.iconst 0, 1) := by decide +kernel
theorem dX1_init_24 : decode cX1_init 24 = .ok (.istore_n 1, 1) := by decide +kernel
theorem dX1_init_25 : decode cX1_init 25 = .ok (.iload_n 1, 1) := by decide +kernel
theorem dX1_init_26 : decode cX1_init 26 = .ok (.bipush 6, 2) := by decide +kernel
theorem dX1_init_28 : decode cX1_init 28 = .ok (.if_icmp .ge 22, 3) := by decide +kernel
theorem dX1_init_31 : decode cX1_init 31 = .ok (.aload_n 0, 1) := by decide +kernel
theorem dX1_init_32 : decode cX1_init 32 = .ok (.getfield 11, 3) := by decide +kernel
theorem dX1_init_35 : decode cX1_init 35 = .ok (.iload_n 1, 1) := by decide +kernel
theorem dX1_init_36 : decode cX1_init 36 = .ok (.new 9, 3) := by decide +kernel
theorem dX1_init_39 : decode cX1_init 39 = .ok (.dup, 1) := by decide +kernel
theorem dX1_init_40 : decode cX1_init 40 = .ok (.invokespecial 22, 3) := by decide +kernel
theorem dX1_init_43 : decode cX1_init 43 = .ok (.aastore, 1) := by decide +kernel
theorem dX1_init_44 : decode cX1_init 44 = .ok (.iinc 1 1, 3) := by decide +kernel
theorem dX1_init_47 : decode cX1_init 47 = .ok (.goto (-22), 3) := by decide +kernel
theorem dX1_init_50 : decode cX1_init 50 = .ok (.return_, 1) := by decide +kernel
theorem dX1_has_0 : decode cX1_has 0 = .ok (.iload_n 1, 1) := by decide +kernel
theorem dX1_has_1 : decode cX1_has 1 = .ok (.ifCond .lt 15, 3) := by decide +kernel
theorem dX1_has_4 : decode cX1_has 4 = .ok (.iload_n 1, 1) := by decide +kernel
theorem dX1_has_5 : decode cX1_has 5 = .ok (.aload_n 0, 1) := by decide +kernel
theorem dX1_has_6 : decode cX1_has 6 = .ok (.getfield 15, 3) := by decide +kernel
theorem dX1_has_9 : decode cX1_has 9 = .ok (.if_icmp .ge 7, 3) := by decide +kernel
theorem dX1_has_12 : decode cX1_has 12 = .ok (.iconst 1, 1) := by decide +kernel
theorem dX1_has_13 : decode cX1_has 13 = .ok (.goto 4, 3) := by decide +kernel
theorem dX1_has_16 : decode cX1_has 16 = .ok (.iconst 0, 1) := by decide +kernel
theorem dX1_has_17 : decode cX1_has 17 = .ok (.ireturn, 1) := by decide +kernel
set_option maxRecDepth 20000 in
theorem ggX1_add_X0_start : GoodIn wsX1_add wsX0_start := goodIn_r _ [7, 8, 9, 10, 11, 12, 6, 13, 14, 15, 19, 20, 21, 22, 23, 24, 25, 26, 27, 28, 29, 30] (by decide +kernel) (by decide +kernel)
set_option maxRecDepth 20000 in
theorem gX1_add_X0_start : GoodIn wsX1_add (wsV RX1 23 RX0 yX0_start wsX0_start) := goodIn_app (goodIn_of _ (by decide +kernel)) ggX1_add_X0_start
theorem dX1_add_0 : decode cX1_add 0 = .ok (.aload_n 0, 1) := by decide +kernel
theorem dX1_add_1 : decode cX1_add 1 = .ok (.getfield 15, 3) := by decide +kernel
theorem dX1_add_4 : decode cX1_add 4 = .ok (.bipush 6, 2) := by decide +kernel
theorem dX1_add_6 : decode cX1_add 6 = .ok (.if_icmp .lt 5, 3) := by decide +kernel
theorem dX1_add_9 : decode cX1_add 9 = .ok (.iconst (-1), 1) := by decide +kernel
theorem dX1_add_10 : decode cX1_add 10 = .ok (.ireturn, 1) := by decide +kernel
theorem dX1_add_11 : decode cX1_add 11 = .ok (.aload_n 0, 1) := by decide +kernel
theorem dX1_add_12 : decode cX1_add 12 = .ok (.getfield 11, 3) := by decide +kernel
theorem dX1_add_15 : decode cX1_add 15 = .ok (.aload_n 0, 1) := by decide +kernel
theorem dX1_add_16 : decode cX1_add 16 = .ok (.getfield 15, 3) := by decide +kernel
theorem dX1_add_19 : decode cX1_add 19 = .ok (.aaload, 1) := by decide +kernel
theorem dX1_add_20 : decode cX1_add 20 = .ok (.iload_n 1, 1) := by decide +kernel
theorem dX1_add_21 : decode cX1_add 21 = .ok (.iload_n 2, 1) := by decide +kernel
theorem dX1_add_22 : decode cX1_add 22 = .ok (.invokevirtual 23, 3) := by decide +kernel
theorem dX1_add_25 : decode cX1_add 25 = .ok (.aload_n 0, 1) := by decide +kernel
theorem dX1_add_26 : decode cX1_add 26 = .ok (.dup, 1) := by decide +kernel
theorem dX1_add_27 : decode cX1_add 27 = .ok (.getfield 15, 3) := by decide +kernel
theorem dX1_add_30 : decode cX1_add 30 = .ok (.iconst 1, 1) := by decide +kernel
theorem dX1_add_31 : decode cX1_add 31 = .ok (.iadd, 1) := by decide +kernel
theorem dX1_add_32 : decode cX1_add 32 = .ok (.putfield 15, 3) := by decide +kernel
theorem dX1_add_35 : decode cX1_add 35 = .ok (.aload_n 0, 1) := by decide +kernel
theorem dX1_add_36 : decode cX1_add 36 = .ok (.getfield 15, 3) := by decide +kernel
theorem dX1_add_39 : decode cX1_add 39 = .ok (.iconst 1, 1) := by decide +kernel
theorem dX1_add_40 : decode cX1_add 40 = .ok (.isub, 1) := by decide +kernel
theorem dX1_add_41 : decode cX1_add 41 = .ok (.ireturn, 1) := by decide +kernel
set_option maxRecDepth 20000 in
theorem ggX1_copyFrom_X0_copyFrom : GoodIn wsX1_copyFrom wsX0_copyFrom := goodIn_r _ [8, 9, 10, 11, 12, 13, 14, 15, 16, 17, 18, 19, 20, 21, 22, 23, 24, 28, 29, 30, 31, 32, 33, 34, 35, 36, 37, 38, 39] (by decide +kernel) (by decide +kernel)
set_option maxRecDepth 20000 in
theorem gX1_copyFrom_X0_copyFrom : GoodIn wsX1_copyFrom (wsV RX1 27 RX0 yX0_copyFrom wsX0_copyFrom) := goodIn_app (goodIn_of _ (by decide +kernel)) ggX1_copyFrom_X0_copyFrom
theorem dX1_copyFrom_0 : decode cX1_copyFrom 0 = .ok (.aload_n 0, 1) := by decide +kernel
theorem dX1_copyFrom_1 : decode cX1_copyFrom 1 = .ok (.aload_n 1, 1) := by decide +kernel
theorem dX1_copyFrom_2 : decode cX1_copyFrom 2 = .ok (.getfield 15, 3) := by decide +kernel
theorem dX1_copyFrom_5 : decode cX1_copyFrom 5 = .ok (.putfield 15, 3) := by decide +kernel
theorem dX1_copyFrom_8 : decode cX1_copyFrom 8 = .ok (.aload_n 0, 1) := by decide +kernel
theorem dX1_copyFrom_9 : decode cX1_copyFrom 9 = .ok (.aload_n 1, 1) := by decide +kernel
theorem dX1_copyFrom_10 : decode cX1_copyFrom 10 = .ok (.getfield 19, 3) := by decide +kernel
theorem dX1_copyFrom_13 : decode cX1_copyFrom 13 = .ok (.putfield 19, 3) := by decide +kernel
theorem dX1_copyFrom_16 : decode cX1_copyFrom 16 = .ok (.iconst 0, 1) := by decide +kernel
theorem dX1_copyFrom_17 : decode cX1_copyFrom 17 = .ok (.istore_n 2, 1) := by decide +kernel
theorem dX1_copyFrom_18 : decode cX1_copyFrom 18 = .ok (.iload_n 2, 1) := by decide +kernel
theorem dX1_copyFrom_19 : decode cX1_copyFrom 19 = .ok (.aload_n 0, 1) := by decide +kernel
theorem dX1_copyFrom_20 : decode cX1_copyFrom 20 = .ok (.getfield 15, 3) := by decide +kernel
theorem dX1_copyFrom_23 : decode cX1_copyFrom 23 = .ok (.if_icmp .ge 24, 3) := by decide +kernel
theorem dX1_copyFrom_26 : decode cX1_copyFrom 26 = .ok (.aload_n 0, 1) := by decide +kernel
theorem dX1_copyFrom_27 : decode cX1_copyFrom 27 = .ok (.getfield 11, 3) := by decide +kernel
theorem dX1_copyFrom_30 : decode cX1_copyFrom 30 = .ok (.iload_n 2, 1) := by decide +kernel
theorem dX1_copyFrom_31 : decode cX1_copyFrom 31 = .ok (.aaload, 1) := by decide +kernel
theorem dX1_copyFrom_32 : decode cX1_copyFrom 32 = .ok (.aload_n 1, 1) := by decide +kernel
theorem dX1_copyFrom_33 : decode cX1_copyFrom 33 = .ok (.getfield 11, 3) := by decide +kernel
theorem dX1_copyFrom_36 : decode cX1_copyFrom 36 = .ok (.iload_n 2, 1) := by decide +kernel
theorem dX1_copyFrom_37 : decode cX1_copyFrom 37 = .ok (.aaload, 1) := by decide +kernel
theorem dX1_copyFrom_38 : decode cX1_copyFrom 38 = .ok (.invokevirtual 27, 3) := by decide +kernel
theorem dX1_copyFrom_41 : decode cX1_copyFrom 41 = .ok (.iinc 2 1, 3) := by decide +kernel
theorem dX1_copyFrom_44 : decode cX1_copyFrom 44 = .ok (.goto (-26), 3) := by decide +kernel
theorem dX1_copyFrom_47 : decode cX1_copyFrom 47 = .ok (.return_, 1) := by decide +kernel
set_option maxRecDepth 20000 in
theorem ggX1_letTicksGoBy_X0_letTickGoBy : GoodIn wsX1_letTicksGoBy wsX0_letTickGoBy := goodIn_r _ [8, 9, 10, 11, 12, 13, 14, 7, 15, 16, 17, 18, 19, 20, 21, 22, 23, 24, 25, 26, 27, 28, 29, 30, 31, 32, 33, 34, 35, 36, 37, 38, 39, 40, 41, 42, 43, 44, 45, 46, 47, 48, 49, 50, 51, 52, 53, 54, 55, 56, 57, 58, 59, 60, 61, 62, 63, 64, 65, 66, 67, 68, 69, 70, 74, 75, 76, 77, 78, 79, 80, 81, 82, 83, 84, 85, 86, 87, 88, 89] (by decide +kernel) (by decide +kernel)
set_option maxRecDepth 20000 in
theorem gX1_letTicksGoBy_X0_letTickGoBy : GoodIn wsX1_letTicksGoBy (wsV RX1 31 RX0 yX0_letTickGoBy wsX0_letTickGoBy) := goodIn_app (goodIn_of _ (by decide +kernel)) ggX1_letTicksGoBy_X0_letTickGoBy
theorem dX1_letTicksGoBy_0 : decode cX1_letTicksGoBy 0 = .ok (.iconst 0, 1) := by decide +kernel
theorem dX1_letTicksGoBy_1 : decode cX1_letTicksGoBy 1 = .ok (.istore_n 3, 1) := by decide +kernel
theorem dX1_letTicksGoBy_2 : decode cX1_letTicksGoBy 2 = .ok (.iload_n 3, 1) := by decide +kernel
theorem dX1_letTicksGoBy_3 : decode cX1_letTicksGoBy 3 = .ok (.iload_n 2, 1) := by decide +kernel
theorem dX1_letTicksGoBy_4 : decode cX1_letTicksGoBy 4 = .ok (.if_icmp .ge 52, 3) := by decide +kernel
theorem dX1_letTicksGoBy_7 : decode cX1_letTicksGoBy 7 = .ok (.iconst 0, 1) := by decide +kernel
theorem dX1_letTicksGoBy_8 : decode cX1_letTicksGoBy 8 = .ok (.istore 4, 2) := by decide +kernel
theorem dX1_letTicksGoBy_10 : decode cX1_letTicksGoBy 10 = .ok (.iload 4, 2) := by decide +kernel
theorem dX1_letTicksGoBy_12 : decode cX1_letTicksGoBy 12 = .ok (.aload_n 0, 1) := by decide +kernel
theorem dX1_letTicksGoBy_13 : decode cX1_letTicksGoBy 13 = .ok (.getfield 15, 3) := by decide +kernel
theorem dX1_letTicksGoBy_16 : decode cX1_letTicksGoBy 16 = .ok (.if_icmp .ge 24, 3) := by decide +kernel
theorem dX1_letTicksGoBy_19 : decode cX1_letTicksGoBy 19 = .ok (.aload_n 0, 1) := by decide +kernel
theorem dX1_letTicksGoBy_20 : decode cX1_letTicksGoBy 20 = .ok (.getfield 11, 3) := by decide +kernel
theorem dX1_letTicksGoBy_23 : decode cX1_letTicksGoBy 23 = .ok (.iload 4, 2) := by decide +kernel
theorem dX1_letTicksGoBy_25 : decode cX1_letTicksGoBy 25 = .ok (.aaload, 1) := by decide +kernel
theorem dX1_letTicksGoBy_26 : decode cX1_letTicksGoBy 26 = .ok (.aload_n 1, 1) := by decide +kernel
theorem dX1_letTicksGoBy_27 : decode cX1_letTicksGoBy 27 = .ok (.aload_n 0, 1) := by decide +kernel
theorem dX1_letTicksGoBy_28 : decode cX1_letTicksGoBy 28 = .ok (.getfield 19, 3) := by decide +kernel
theorem dX1_letTicksGoBy_31 : decode cX1_letTicksGoBy 31 = .ok (.invokevirtual 31, 3) := by decide +kernel
theorem dX1_letTicksGoBy_34 : decode cX1_letTicksGoBy 34 = .ok (.iinc 4 1, 3) := by decide +kernel
theorem dX1_letTicksGoBy_37 : decode cX1_letTicksGoBy 37 = .ok (.goto (-27), 3) := by decide +kernel
theorem dX1_letTicksGoBy_40 : decode cX1_letTicksGoBy 40 = .ok (.aload_n 0, 1) := by decide +kernel
theorem dX1_letTicksGoBy_41 : decode cX1_letTicksGoBy 41 = .ok (.dup, 1) := by decide +kernel
theorem dX1_letTicksGoBy_42 : decode cX1_letTicksGoBy 42 = .ok (.getfield 19, 3) := by decide +kernel
theorem dX1_letTicksGoBy_45 : decode cX1_letTicksGoBy 45 = .ok (.iconst 1, 1) := by decide +kernel
theorem dX1_letTicksGoBy_46 : decode cX1_letTicksGoBy 46 = .ok (.iadd, 1) := by decide +kernel
theorem dX1_letTicksGoBy_47 : decode cX1_letTicksGoBy 47 = .ok (.putfield 19, 3) := by decide +kernel
theorem dX1_letTicksGoBy_50 : decode cX1_letTicksGoBy 50 = .ok (.iinc 3 1, 3) := by decide +kernel
theorem dX1_letTicksGoBy_53 : decode cX1_letTicksGoBy 53 = .ok (.goto (-51), 3) := by decide +kernel
theorem dX1_letTicksGoBy_56 : decode cX1_letTicksGoBy 56 = .ok (.return_, 1) := by decide +kernel
set_option maxRecDepth 20000 in
theorem ggX1_boatsIn_X0_isIn : GoodIn wsX1_boatsIn wsX0_isIn := goodIn_r _ [7, 8, 12, 13, 14, 15, 16, 17, 18, 19, 20, 21, 22, 23] (by decide +kernel) (by decide +kernel)
set_option maxRecDepth 20000 in
theorem gX1_boatsIn_X0_isIn : GoodIn wsX1_boatsIn (wsV RX1 35 RX0 yX0_isIn wsX0_isIn) := goodIn_app (goodIn_of _ (by decide +kernel)) ggX1_boatsIn_X0_isIn
theorem dX1_boatsIn_0 : decode cX1_boatsIn 0 = .ok (.iconst 0, 1) := by decide +kernel
theorem dX1_boatsIn_1 : decode cX1_boatsIn 1 = .ok (.istore_n 1, 1) := by decide +kernel
theorem dX1_boatsIn_2 : decode cX1_boatsIn 2 = .ok (.iconst 0, 1) := by decide +kernel
theorem dX1_boatsIn_3 : decode cX1_boatsIn 3 = .ok (.istore_n 2, 1) := by decide +kernel
theorem dX1_boatsIn_4 : decode cX1_boatsIn 4 = .ok (.iload_n 2, 1) := by decide +kernel
theorem dX1_boatsIn_5 : decode cX1_boatsIn 5 = .ok (.aload_n 0, 1) := by decide +kernel
theorem dX1_boatsIn_6 : decode cX1_boatsIn 6 = .ok (.getfield 15, 3) := by decide +kernel
theorem dX1_boatsIn_9 : decode cX1_boatsIn 9 = .ok (.if_icmp .ge 24, 3) := by decide +kernel
theorem dX1_boatsIn_12 : decode cX1_boatsIn 12 = .ok (.aload_n 0, 1) := by decide +kernel
theorem dX1_boatsIn_13 : decode cX1_boatsIn 13 = .ok (.getfield 11, 3) := by decide +kernel
theorem dX1_boatsIn_16 : decode cX1_boatsIn 16 = .ok (.iload_n 2, 1) := by decide +kernel
theorem dX1_boatsIn_17 : decode cX1_boatsIn 17 = .ok (.aaload, 1) := by decide +kernel
theorem dX1_boatsIn_18 : decode cX1_boatsIn 18 = .ok (.invokevirtual 35, 3) := by decide +kernel
theorem dX1_boatsIn_21 : decode cX1_boatsIn 21 = .ok (.ifCond .eq 6, 3) := by decide +kernel
theorem dX1_boatsIn_24 : decode cX1_boatsIn 24 = .ok (.iinc 1 1, 3) := by decide +kernel
theorem dX1_boatsIn_27 : decode cX1_boatsIn 27 = .ok (.iinc 2 1, 3) := by decide +kernel
theorem dX1_boatsIn_30 : decode cX1_boatsIn 30 = .ok (.goto (-26), 3) := by decide +kernel
theorem dX1_boatsIn_33 : decode cX1_boatsIn 33 = .ok (.iload_n 1, 1) := by decide +kernel
theorem dX1_boatsIn_34 : decode cX1_boatsIn 34 = .ok (.ireturn, 1) := by decide +kernel
theorem dX1_foulsAdded_0 : decode cX1_foulsAdded 0 = .ok (.iconst 0, 1) := by decide +kernel
theorem dX1_foulsAdded_1 : decode cX1_foulsAdded 1 = .ok (.istore_n 1, 1) := by decide +kernel
theorem dX1_foulsAdded_2 : decode cX1_foulsAdded 2 = .ok (.iconst 0, 1) := by decide +kernel
theorem dX1_foulsAdded_3 : decode cX1_foulsAdded 3 = .ok (.istore_n 2, 1) := by decide +kernel
theorem dX1_foulsAdded_4 : decode cX1_foulsAdded 4 = .ok (.iload_n 2, 1) := by decide +kernel
theorem dX1_foulsAdded_5 : decode cX1_foulsAdded 5 = .ok (.aload_n 0, 1) := by decide +kernel
theorem dX1_foulsAdded_6 : decode cX1_foulsAdded 6 = .ok (.getfield 15, 3) := by decide +kernel
theorem dX1_foulsAdded_9 : decode cX1_foulsAdded 9 = .ok (.if_icmp .ge 21, 3) := by decide +kernel
theorem dX1_foulsAdded_12 : decode cX1_foulsAdded 12 = .ok (.iload_n 1, 1) := by decide +kernel
theorem dX1_foulsAdded_13 : decode cX1_foulsAdded 13 = .ok (.aload_n 0, 1) := by decide +kernel
theorem dX1_foulsAdded_14 : decode cX1_foulsAdded 14 = .ok (.getfield 11, 3) := by decide +kernel
theorem dX1_foulsAdded_17 : decode cX1_foulsAdded 17 = .ok (.iload_n 2, 1) := by decide +kernel
theorem dX1_foulsAdded_18 : decode cX1_foulsAdded 18 = .ok (.aaload, 1) := by decide +kernel
theorem dX1_foulsAdded_19 : decode cX1_foulsAdded 19 = .ok (.getfield 39, 3) := by decide +kernel
theorem dX1_foulsAdded_22 : decode cX1_foulsAdded 22 = .ok (.iadd, 1) := by decide +kernel
theorem dX1_foulsAdded_23 : decode cX1_foulsAdded 23 = .ok (.istore_n 1, 1) := by decide +kernel
theorem dX1_foulsAdded_24 : decode cX1_foulsAdded 24 = .ok (.iinc 2 1, 3) := by decide +kernel
theorem dX1_foulsAdded_27 : decode cX1_foulsAdded 27 = .ok (.goto (-23), 3) := by decide +kernel
theorem dX1_foulsAdded_30 : decode cX1_foulsAdded 30 = .ok (.iload_n 1, 1) := by decide +kernel
theorem dX1_foulsAdded_31 : decode cX1_foulsAdded 31 = .ok (.ireturn, 1) := by decide +kernel
theorem dX1_placesAdded_0 : decode cX1_placesAdded 0 = .ok (.iconst 0, 1) := by decide +kernel
theorem dX1_placesAdded_1 : decode cX1_placesAdded 1 = .ok (.istore_n 1, 1) := by decide +kernel
theorem dX1_placesAdded_2 : decode cX1_placesAdded 2 = .ok (.iconst 0, 1) := by decide +kernel
theorem dX1_placesAdded_3 : decode cX1_placesAdded 3 = .ok (.istore_n 2, 1) := by decide +kernel
theorem dX1_placesAdded_4 : decode cX1_placesAdded 4 = .ok (.iload_n 2, 1) := by decide +kernel
theorem dX1_placesAdded_5 : decode cX1_placesAdded 5 = .ok (.aload_n 0, 1) := by decide +kernel
theorem dX1_placesAdded_6 : decode cX1_placesAdded 6 = .ok (.getfield 15, 3) := by decide +kernel
theorem dX1_placesAdded_9 : decode cX1_placesAdded 9 = .ok (.if_icmp .ge 21, 3) := by decide +kernel
theorem dX1_placesAdded_12 : decode cX1_placesAdded 12 = .ok (.iload_n 1, 1) := by decide +kernel
theorem dX1_placesAdded_13 : decode cX1_placesAdded 13 = .ok (.aload_n 0, 1) := by decide +kernel
theorem dX1_placesAdded_14 : decode cX1_placesAdded 14 = .ok (.getfield 11, 3) := by decide +kernel
theorem dX1_placesAdded_17 : decode cX1_placesAdded 17 = .ok (.iload_n 2, 1) := by decide +kernel
theorem dX1_placesAdded_18 : decode cX1_placesAdded 18 = .ok (.aaload, 1) := by decide +kernel
theorem dX1_placesAdded_19 : decode cX1_placesAdded 19 = .ok (.getfield 42, 3) := by decide +kernel
theorem dX1_placesAdded_22 : decode cX1_placesAdded 22 = .ok (.iadd, 1) := by decide +kernel
theorem dX1_placesAdded_23 : decode cX1_placesAdded 23 = .ok (.istore_n 1, 1) := by decide +kernel
theorem dX1_placesAdded_24 : decode cX1_placesAdded 24 = .ok (.iinc 2 1, 3) := by decide +kernel
theorem dX1_placesAdded_27 : decode cX1_placesAdded 27 = .ok (.goto (-23), 3) := by decide +kernel
theorem dX1_placesAdded_30 : decode cX1_placesAdded 30 = .ok (.iload_n 1, 1) := by decide +kernel
theorem dX1_placesAdded_31 : decode cX1_placesAdded 31 = .ok (.ireturn, 1) := by decide +kernel
set_option maxRecDepth 20000 in
theorem ggX1_leader_X0_isIn : GoodIn wsX1_leader wsX0_isIn := goodIn_r _ [8, 9, 13, 14, 15, 16, 17, 18, 19, 20, 21, 22, 23, 24] (by decide +kernel) (by decide +kernel)
set_option maxRecDepth 20000 in
theorem gX1_leader_X0_isIn : GoodIn wsX1_leader (wsV RX1 35 RX0 yX0_isIn wsX0_isIn) := goodIn_app (goodIn_of _ (by decide +kernel)) ggX1_leader_X0_isIn
theorem dX1_leader_0 : decode cX1_leader 0 = .ok (.iconst (-1), 1) := by decide +kernel
theorem dX1_leader_1 : decode cX1_leader 1 = .ok (.istore_n 1, 1) := by decide +kernel
theorem dX1_leader_2 : decode cX1_leader 2 = .ok (.iconst (-1), 1) := by decide +kernel
theorem dX1_leader_3 : decode cX1_leader 3 = .ok (.istore_n 2, 1) := by decide +kernel
theorem dX1_leader_4 : decode cX1_leader 4 = .ok (.iconst 0, 1) := by decide +kernel
theorem dX1_leader_5 : decode cX1_leader 5 = .ok (.istore_n 3, 1) := by decide +kernel
theorem dX1_leader_6 : decode cX1_leader 6 = .ok (.iload_n 3, 1) := by decide +kernel
theorem dX1_leader_7 : decode cX1_leader 7 = .ok (.aload_n 0, 1) := by decide +kernel
theorem dX1_leader_8 : decode cX1_leader 8 = .ok (.getfield 15, 3) := by decide +kernel
theorem dX1_leader_11 : decode cX1_leader 11 = .ok (.if_icmp .ge 46, 3) := by decide +kernel
theorem dX1_leader_14 : decode cX1_leader 14 = .ok (.aload_n 0, 1) := by decide +kernel
theorem dX1_leader_15 : decode cX1_leader 15 = .ok (.getfield 11, 3) := by decide +kernel
theorem dX1_leader_18 : decode cX1_leader 18 = .ok (.iload_n 3, 1) := by decide +kernel
theorem dX1_leader_19 : decode cX1_leader 19 = .ok (.aaload, 1) := by decide +kernel
theorem dX1_leader_20 : decode cX1_leader 20 = .ok (.invokevirtual 35, 3) := by decide +kernel
theorem dX1_leader_23 : decode cX1_leader 23 = .ok (.ifCond .ne 28, 3) := by decide +kernel
theorem dX1_leader_26 : decode cX1_leader 26 = .ok (.aload_n 0, 1) := by decide +kernel
theorem dX1_leader_27 : decode cX1_leader 27 = .ok (.getfield 11, 3) := by decide +kernel
theorem dX1_leader_30 : decode cX1_leader 30 = .ok (.iload_n 3, 1) := by decide +kernel
theorem dX1_leader_31 : decode cX1_leader 31 = .ok (.aaload, 1) := by decide +kernel
theorem dX1_leader_32 : decode cX1_leader 32 = .ok (.getfield 42, 3) := by decide +kernel
theorem dX1_leader_35 : decode cX1_leader 35 = .ok (.iload_n 2, 1) := by decide +kernel
theorem dX1_leader_36 : decode cX1_leader 36 = .ok (.if_icmp .le 15, 3) := by decide +kernel
theorem dX1_leader_39 : decode cX1_leader 39 = .ok (.iload_n 3, 1) := by decide +kernel
theorem dX1_leader_40 : decode cX1_leader 40 = .ok (.istore_n 1, 1) := by decide +kernel
theorem dX1_leader_41 : decode cX1_leader 41 = .ok (.aload_n 0, 1) := by decide +kernel
theorem dX1_leader_42 : decode cX1_leader 42 = .ok (.getfield 11, 3) := by decide +kernel
theorem dX1_leader_45 : decode cX1_leader 45 = .ok (.iload_n 3, 1) := by decide +kernel
theorem dX1_leader_46 : decode cX1_leader 46 = .ok (.aaload, 1) := by decide +kernel
theorem dX1_leader_47 : decode cX1_leader 47 = .ok (.getfield 42, 3) := by decide +kernel
theorem dX1_leader_50 : decode cX1_leader 50 = .ok (.istore_n 2, 1) := by decide +kernel
theorem dX1_leader_51 : decode cX1_leader 51 = .ok (.iinc 3 1, 3) := by decide +kernel
theorem dX1_leader_54 : decode cX1_leader 54 = .ok (.goto (-48), 3) := by decide +kernel
theorem dX1_leader_57 : decode cX1_leader 57 = .ok (.iload_n 1, 1) := by decide +kernel
theorem dX1_leader_58 : decode cX1_leader 58 = .ok (.ireturn, 1) := by decide +kernel
set_option maxRecDepth 20000 in
theorem ggX1_winner_X0_isIn : GoodIn wsX1_winner wsX0_isIn := goodIn_r _ [7, 8, 18, 19, 20, 21, 22, 23, 24, 25, 26, 27, 28, 29] (by decide +kernel) (by decide +kernel)
set_option maxRecDepth 20000 in
theorem gX1_winner_X0_isIn : GoodIn wsX1_winner (wsV RX1 35 RX0 yX0_isIn wsX0_isIn) := goodIn_app (goodIn_of _ (by decide +kernel)) ggX1_winner_X0_isIn
set_option maxRecDepth 20000 in
theorem ggX1_winner_X0_time : GoodIn wsX1_winner wsX0_time := goodIn_r _ [12, 8, 13, 14, 18, 19, 20, 21, 22, 23, 24, 25, 26, 27, 28, 29] (by decide +kernel) (by decide +kernel)
set_option maxRecDepth 20000 in
theorem gX1_winner_X0_time : GoodIn wsX1_winner (wsV RX1 45 RX0 yX0_time wsX0_time) := goodIn_app (goodIn_of _ (by decide +kernel)) ggX1_winner_X0_time
theorem dX1_winner_0 : decode cX1_winner 0 = .ok (.iconst (-1), 1) := by decide +kernel
theorem dX1_winner_1 : decode cX1_winner 1 = .ok (.istore_n 1, 1) := by decide +kernel
theorem dX1_winner_2 : decode cX1_winner 2 = .ok (.iconst 0, 1) := by decide +kernel
theorem dX1_winner_3 : decode cX1_winner 3 = .ok (.istore_n 2, 1) := by decide +kernel
theorem dX1_winner_4 : decode cX1_winner 4 = .ok (.iconst 0, 1) := by decide +kernel
theorem dX1_winner_5 : decode cX1_winner 5 = .ok (.istore_n 3, 1) := by decide +kernel
theorem dX1_winner_6 : decode cX1_winner 6 = .ok (.iload_n 3, 1) := by decide +kernel
theorem dX1_winner_7 : decode cX1_winner 7 = .ok (.aload_n 0, 1) := by decide +kernel
theorem dX1_winner_8 : decode cX1_winner 8 = .ok (.getfield 15, 3) := by decide +kernel
theorem dX1_winner_11 : decode cX1_winner 11 = .ok (.if_icmp .ge 51, 3) := by decide +kernel
theorem dX1_winner_14 : decode cX1_winner 14 = .ok (.aload_n 0, 1) := by decide +kernel
theorem dX1_winner_15 : decode cX1_winner 15 = .ok (.getfield 11, 3) := by decide +kernel
theorem dX1_winner_18 : decode cX1_winner 18 = .ok (.iload_n 3, 1) := by decide +kernel
theorem dX1_winner_19 : decode cX1_winner 19 = .ok (.aaload, 1) := by decide +kernel
theorem dX1_winner_20 : decode cX1_winner 20 = .ok (.invokevirtual 35, 3) := by decide +kernel
theorem dX1_winner_23 : decode cX1_winner 23 = .ok (.ifCond .eq 33, 3) := by decide +kernel
theorem dX1_winner_26 : decode cX1_winner 26 = .ok (.iload_n 1, 1) := by decide +kernel
theorem dX1_winner_27 : decode cX1_winner 27 = .ok (.iconst (-1), 1) := by decide +kernel
theorem dX1_winner_28 : decode cX1_winner 28 = .ok (.if_icmp .eq 16, 3) := by decide +kernel
theorem dX1_winner_31 : decode cX1_winner 31 = .ok (.aload_n 0, 1) := by decide +kernel
theorem dX1_winner_32 : decode cX1_winner 32 = .ok (.getfield 11, 3) := by decide +kernel
theorem dX1_winner_35 : decode cX1_winner 35 = .ok (.iload_n 3, 1) := by decide +kernel
theorem dX1_winner_36 : decode cX1_winner 36 = .ok (.aaload, 1) := by decide +kernel
theorem dX1_winner_37 : decode cX1_winner 37 = .ok (.invokevirtual 45, 3) := by decide +kernel
theorem dX1_winner_40 : decode cX1_winner 40 = .ok (.iload_n 2, 1) := by decide +kernel
theorem dX1_winner_41 : decode cX1_winner 41 = .ok (.if_icmp .ge 15, 3) := by decide +kernel
theorem dX1_winner_44 : decode cX1_winner 44 = .ok (.iload_n 3, 1) := by decide +kernel
theorem dX1_winner_45 : decode cX1_winner 45 = .ok (.istore_n 1, 1) := by decide +kernel
theorem dX1_winner_46 : decode cX1_winner 46 = .ok (.aload_n 0, 1) := by decide +kernel
theorem dX1_winner_47 : decode cX1_winner 47 = .ok (.getfield 11, 3) := by decide +kernel
theorem dX1_winner_50 : decode cX1_winner 50 = .ok (.iload_n 3, 1) := by decide +kernel
theorem dX1_winner_51 : decode cX1_winner 51 = .ok (.aaload, 1) := by decide +kernel
theorem dX1_winner_52 : decode cX1_winner 52 = .ok (.invokevirtual 45, 3) := by decide +kernel
theorem dX1_winner_55 : decode cX1_winner 55 = .ok (.istore_n 2, 1) := by decide +kernel
theorem dX1_winner_56 : decode cX1_winner 56 = .ok (.iinc 3 1, 3) := by decide +kernel
theorem dX1_winner_59 : decode cX1_winner 59 = .ok (.goto (-53), 3) := by decide +kernel
theorem dX1_winner_62 : decode cX1_winner 62 = .ok (.iload_n 1, 1) := by decide +kernel
theorem dX1_winner_63 : decode cX1_winner 63 = .ok (.ireturn, 1) := by decide +kernel
set_option maxRecDepth 20000 in
theorem ggX1_rankOf_X0_isAheadOf : GoodIn wsX1_rankOf wsX0_isAheadOf := goodIn_r _ [7, 8, 9, 10, 11, 12, 6, 13, 14, 15, 19, 20, 21, 22, 23, 24, 25, 26, 27, 28, 29, 30] (by decide +kernel) (by decide +kernel)
set_option maxRecDepth 20000 in
theorem gX1_rankOf_X0_isAheadOf : GoodIn wsX1_rankOf (wsV RX1 49 RX0 yX0_isAheadOf wsX0_isAheadOf) := goodIn_app (goodIn_of _ (by decide +kernel)) ggX1_rankOf_X0_isAheadOf
theorem dX1_rankOf_0 : decode cX1_rankOf 0 = .ok (.iconst 0, 1) := by decide +kernel
theorem dX1_rankOf_1 : decode cX1_rankOf 1 = .ok (.istore_n 2, 1) := by decide +kernel
theorem dX1_rankOf_2 : decode cX1_rankOf 2 = .ok (.iconst 0, 1) := by decide +kernel
theorem dX1_rankOf_3 : decode cX1_rankOf 3 = .ok (.istore_n 3, 1) := by decide +kernel
theorem dX1_rankOf_4 : decode cX1_rankOf 4 = .ok (.iload_n 3, 1) := by decide +kernel
theorem dX1_rankOf_5 : decode cX1_rankOf 5 = .ok (.aload_n 0, 1) := by decide +kernel
theorem dX1_rankOf_6 : decode cX1_rankOf 6 = .ok (.getfield 15, 3) := by decide +kernel
theorem dX1_rankOf_9 : decode cX1_rankOf 9 = .ok (.if_icmp .ge 25, 3) := by decide +kernel
theorem dX1_rankOf_12 : decode cX1_rankOf 12 = .ok (.aload_n 0, 1) := by decide +kernel
theorem dX1_rankOf_13 : decode cX1_rankOf 13 = .ok (.getfield 11, 3) := by decide +kernel
theorem dX1_rankOf_16 : decode cX1_rankOf 16 = .ok (.iload_n 3, 1) := by decide +kernel
theorem dX1_rankOf_17 : decode cX1_rankOf 17 = .ok (.aaload, 1) := by decide +kernel
theorem dX1_rankOf_18 : decode cX1_rankOf 18 = .ok (.aload_n 1, 1) := by decide +kernel
theorem dX1_rankOf_19 : decode cX1_rankOf 19 = .ok (.invokevirtual 49, 3) := by decide +kernel
theorem dX1_rankOf_22 : decode cX1_rankOf 22 = .ok (.ifCond .eq 6, 3) := by decide +kernel
theorem dX1_rankOf_25 : decode cX1_rankOf 25 = .ok (.iinc 2 1, 3) := by decide +kernel
theorem dX1_rankOf_28 : decode cX1_rankOf 28 = .ok (.iinc 3 1, 3) := by decide +kernel
theorem dX1_rankOf_31 : decode cX1_rankOf 31 = .ok (.goto (-27), 3) := by decide +kernel
theorem dX1_rankOf_34 : decode cX1_rankOf 34 = .ok (.iconst 1, 1) := by decide +kernel
theorem dX1_rankOf_35 : decode cX1_rankOf 35 = .ok (.iload_n 2, 1) := by decide +kernel
theorem dX1_rankOf_36 : decode cX1_rankOf 36 = .ok (.iadd, 1) := by decide +kernel
theorem dX1_rankOf_37 : decode cX1_rankOf 37 = .ok (.ireturn, 1) := by decide +kernel
theorem dX2_init_0 : decode cX2_init 0 = .ok (.aload_n 0, 1) := by decide +kernel
theorem dX2_init_1 : decode cX2_init 1 = .ok (.invokespecial 1, 3) := by decide +kernel
theorem dX2_init_4 : decode cX2_init 4 = .ok (.aload_n 0, 1) := by decide +kernel
theorem dX2_init_5 : decode cX2_init 5 = .ok (.iconst 5, 1) := by decide +kernel
theorem dX2_init_6 : decode cX2_init 6 = .ok (.newarray .int, 2) := by decide +kernel
theorem dX2_init_8 : decode cX2_init 8 = .ok (.dup, 1) := by decide +kernel
theorem dX2_init_9 : decode cX2_init 9 = .ok (.iconst 0, 1) := by decide +kernel
theorem dX2_init_10 : decode cX2_init 10 = .ok (.iconst 1, 1) := by decide +kernel
theorem dX2_init_11 : decode cX2_init 11 = .ok (.iastore, 1) := by decide +kernel
theorem dX2_init_12 : decode cX2_init 12 = .ok (.dup, 1) := by decide +kernel
theorem dX2_init_13 : decode cX2_init 13 = .ok (.iconst 1, 1) := by decide +kernel
theorem dX2_init_14 : decode cX2_init 14 = .ok (.iconst 2, 1) := by decide +kernel
theorem dX2_init_15 : decode cX2_init 15 = .ok (.iastore, 1) := by decide +kernel
theorem dX2_init_16 : decode cX2_init 16 = .ok (.dup, 1) := by decide +kernel
theorem dX2_init_17 : decode cX2_init 17 = .ok (.iconst 2, 1) := by decide +kernel
theorem dX2_init_18 : decode cX2_init 18 = .ok (.iconst 3, 1) := by decide +kernel
theorem dX2_init_19 : decode cX2_init 19 = .ok (.iastore, 1) := by decide +kernel
theorem dX2_init_20 : decode cX2_init 20 = .ok (.dup, 1) := by decide +kernel
theorem dX2_init_21 : decode cX2_init 21 = .ok (.iconst 3, 1) := by decide +kernel
theorem dX2_init_22 : decode cX2_init 22 = .ok (.iconst 2, 1) := by decide +kernel
theorem dX2_init_23 : decode cX2_init 23 = .ok (.iastore, 1) := by decide +kernel
theorem dX2_init_24 : decode cX2_init 24 = .ok (.dup, 1) := by decide +kernel
theorem dX2_init_25 : decode cX2_init 25 = .ok (.iconst 4, 1) := by decide +kernel
theorem dX2_init_26 : decode cX2_init 26 = .ok (.iconst 1, 1) := by decide +kernel
theorem dX2_init_27 : decode cX2_init 27 = .ok (.iastore, 1) := by decide +kernel
theorem dX2_init_28 : decode cX2_init 28 = .ok (.putfield 7, 3) := by decide +kernel
theorem dX2_init_31 : decode cX2_init 31 = .ok (.aload_n 0, 1) := by decide +kernel
theorem dX2_init_32 : decode cX2_init 32 = .ok (.bipush 6, 2) := by decide +kernel
theorem dX2_init_34 : decode cX2_init 34 = .ok (.newarray .int, 2) := by decide +kernel
theorem dX2_init_36 : decode cX2_init 36 = .ok (.putfield 13, 3) := by decide +kernel
theorem dX2_init_39 : decode cX2_init 39 = .ok (.aload_n 0, 1) := by decide +kernel
theorem dX2_init_40 : decode cX2_init 40 = .ok (.bipush 6, 2) := by decide +kernel
theorem dX2_init_42 : decode cX2_init 42 = .ok (.newarray .int, 2) := by decide +kernel
theorem dX2_init_44 : decode cX2_init 44 = .ok (.putfield 16, 3) := by decide +kernel
theorem dX2_init_47 : decode cX2_init 47 = .ok (.aload_n 0, 1) := by decide +kernel
theorem dX2_init_48 : decode cX2_init 48 = .ok (.iconst 0, 1) := by decide +kernel
theorem dX2_init_49 : decode cX2_init 49 = .ok (.putfield 19, 3) := by decide +kernel
theorem dX2_init_52 : decode cX2_init 52 = .ok (.return_, 1) := by decide +kernel
theorem dX2_isLane_0 : decode cX2_isLane 0 = .ok (.iload_n 0, 1) := by decide +kernel
theorem dX2_isLane_1 : decode cX2_isLane 1 = .ok (.ifCond .lt 12, 3) := by decide +kernel
theorem dX2_isLane_4 : decode cX2_isLane 4 = .ok (.iload_n 0, 1) := by decide +kernel
theorem dX2_isLane_5 : decode cX2_isLane 5 = .ok (.iconst 5, 1) := by decide +kernel
theorem dX2_isLane_6 : decode cX2_isLane 6 = .ok (.if_icmp .ge 7, 3) := by decide +kernel
theorem dX2_isLane_9 : decode cX2_isLane 9 = .ok (.iconst 1, 1) := by decide +kernel
theorem dX2_isLane_10 : decode cX2_isLane 10 = .ok (.goto 4, 3) := by decide +kernel
theorem dX2_isLane_13 : decode cX2_isLane 13 = .ok (.iconst 0, 1) := by decide +kernel
theorem dX2_isLane_14 : decode cX2_isLane 14 = .ok (.ireturn, 1) := by decide +kernel
theorem dX2_hasWeirAt_0 : decode cX2_hasWeirAt 0 = .ok (.iconst 0, 1) := by decide +kernel
theorem dX2_hasWeirAt_1 : decode cX2_hasWeirAt 1 = .ok (.istore_n 2, 1) := by decide +kernel
theorem dX2_hasWeirAt_2 : decode cX2_hasWeirAt 2 = .ok (.iload_n 2, 1) := by decide +kernel
theorem dX2_hasWeirAt_3 : decode cX2_hasWeirAt 3 = .ok (.aload_n 0, 1) := by decide +kernel
theorem dX2_hasWeirAt_4 : decode cX2_hasWeirAt 4 = .ok (.getfield 19, 3) := by decide +kernel
theorem dX2_hasWeirAt_7 : decode cX2_hasWeirAt 7 = .ok (.if_icmp .ge 21, 3) := by decide +kernel
theorem dX2_hasWeirAt_10 : decode cX2_hasWeirAt 10 = .ok (.aload_n 0, 1) := by decide +kernel
theorem dX2_hasWeirAt_11 : decode cX2_hasWeirAt 11 = .ok (.getfield 13, 3) := by decide +kernel
theorem dX2_hasWeirAt_14 : decode cX2_hasWeirAt 14 = .ok (.iload_n 2, 1) := by decide +kernel
theorem dX2_hasWeirAt_15 : decode cX2_hasWeirAt 15 = .ok (.iaload, 1) := by decide +kernel
theorem dX2_hasWeirAt_16 : decode cX2_hasWeirAt 16 = .ok (.iload_n 1, 1) := by decide +kernel
theorem dX2_hasWeirAt_17 : decode cX2_hasWeirAt 17 = .ok (.if_icmp .ne 5, 3) := by decide +kernel
theorem dX2_hasWeirAt_20 : decode cX2_hasWeirAt 20 = .ok (.iconst 1, 1) := by decide +kernel
theorem dX2_hasWeirAt_21 : decode cX2_hasWeirAt 21 = .ok (.ireturn, 1) := by decide +kernel
theorem dX2_hasWeirAt_22 : decode cX2_hasWeirAt 22 = .ok (.iinc 2 1, 3) := by decide +kernel
theorem dX2_hasWeirAt_25 : decode cX2_hasWeirAt 25 = .ok (.goto (-23), 3) := by decide +kernel
theorem dX2_hasWeirAt_28 : decode cX2_hasWeirAt 28 = .ok (.iconst 0, 1) := by decide +kernel
theorem dX2_hasWeirAt_29 : decode cX2_hasWeirAt 29 = .ok (.ireturn, 1) := by decide +kernel
theorem dX2_addWeir_0 : decode cX2_addWeir 0 = .ok (.aload_n 0, 1) := by decide +kernel
theorem dX2_addWeir_1 : decode cX2_addWeir 1 = .ok (.getfield 19, 3) := by decide +kernel
theorem dX2_addWeir_4 : decode cX2_addWeir 4 = .ok (.bipush 6, 2) := by decide +kernel
theorem dX2_addWeir_6 : decode cX2_addWeir 6 = .ok (.if_icmp .ge 33, 3) := by decide +kernel
theorem dX2_addWeir_9 : decode cX2_addWeir 9 = .ok (.aload_n 0, 1) := by decide +kernel
theorem dX2_addWeir_10 : decode cX2_addWeir 10 = .ok (.getfield 13, 3) := by decide +kernel
theorem dX2_addWeir_13 : decode cX2_addWeir 13 = .ok (.aload_n 0, 1) := by decide +kernel
theorem dX2_addWeir_14 : decode cX2_addWeir 14 = .ok (.getfield 19, 3) := by decide +kernel
theorem dX2_addWeir_17 : decode cX2_addWeir 17 = .ok (.iload_n 1, 1) := by decide +kernel
theorem dX2_addWeir_18 : decode cX2_addWeir 18 = .ok (.iastore, 1) := by decide +kernel
theorem dX2_addWeir_19 : decode cX2_addWeir 19 = .ok (.aload_n 0, 1) := by decide +kernel
theorem dX2_addWeir_20 : decode cX2_addWeir 20 = .ok (.getfield 16, 3) := by decide +kernel
theorem dX2_addWeir_23 : decode cX2_addWeir 23 = .ok (.aload_n 0, 1) := by decide +kernel
theorem dX2_addWeir_24 : decode cX2_addWeir 24 = .ok (.getfield 19, 3) := by decide +kernel
theorem dX2_addWeir_27 : decode cX2_addWeir 27 = .ok (.iload_n 2, 1) := by decide +kernel
theorem dX2_addWeir_28 : decode cX2_addWeir 28 = .ok (.iastore, 1) := by decide +kernel
theorem dX2_addWeir_29 : decode cX2_addWeir 29 = .ok (.aload_n 0, 1) := by decide +kernel
theorem dX2_addWeir_30 : decode cX2_addWeir 30 = .ok (.dup, 1) := by decide +kernel
theorem dX2_addWeir_31 : decode cX2_addWeir 31 = .ok (.getfield 19, 3) := by decide +kernel
theorem dX2_addWeir_34 : decode cX2_addWeir 34 = .ok (.iconst 1, 1) := by decide +kernel
theorem dX2_addWeir_35 : decode cX2_addWeir 35 = .ok (.iadd, 1) := by decide +kernel
theorem dX2_addWeir_36 : decode cX2_addWeir 36 = .ok (.putfield 19, 3) := by decide +kernel
theorem dX2_addWeir_39 : decode cX2_addWeir 39 = .ok (.return_, 1) := by decide +kernel
theorem dX2_firstStop_0 : decode cX2_firstStop 0 = .ok (.iconst (-1), 1) := by decide +kernel
theorem dX2_firstStop_1 : decode cX2_firstStop 1 = .ok (.istore 4, 2) := by decide +kernel
theorem dX2_firstStop_3 : decode cX2_firstStop 3 = .ok (.iconst 0, 1) := by decide +kernel
theorem dX2_firstStop_4 : decode cX2_firstStop 4 = .ok (.istore 5, 2) := by decide +kernel
theorem dX2_firstStop_6 : decode cX2_firstStop 6 = .ok (.iload 5, 2) := by decide +kernel
theorem dX2_firstStop_8 : decode cX2_firstStop 8 = .ok (.aload_n 0, 1) := by decide +kernel
theorem dX2_firstStop_9 : decode cX2_firstStop 9 = .ok (.getfield 19, 3) := by decide +kernel
theorem dX2_firstStop_12 : decode cX2_firstStop 12 = .ok (.if_icmp .ge 81, 3) := by decide +kernel
theorem dX2_firstStop_15 : decode cX2_firstStop 15 = .ok (.aload_n 0, 1) := by decide +kernel
theorem dX2_firstStop_16 : decode cX2_firstStop 16 = .ok (.getfield 13, 3) := by decide +kernel
theorem dX2_firstStop_19 : decode cX2_firstStop 19 = .ok (.iload 5, 2) := by decide +kernel
theorem dX2_firstStop_21 : decode cX2_firstStop 21 = .ok (.iaload, 1) := by decide +kernel
theorem dX2_firstStop_22 : decode cX2_firstStop 22 = .ok (.iload_n 1, 1) := by decide +kernel
theorem dX2_firstStop_23 : decode cX2_firstStop 23 = .ok (.if_icmp .le 18, 3) := by decide +kernel
theorem dX2_firstStop_26 : decode cX2_firstStop 26 = .ok (.aload_n 0, 1) := by decide +kernel
theorem dX2_firstStop_27 : decode cX2_firstStop 27 = .ok (.getfield 13, 3) := by decide +kernel
theorem dX2_firstStop_30 : decode cX2_firstStop 30 = .ok (.iload 5, 2) := by decide +kernel
theorem dX2_firstStop_32 : decode cX2_firstStop 32 = .ok (.iaload, 1) := by decide +kernel
theorem dX2_firstStop_33 : decode cX2_firstStop 33 = .ok (.iload_n 2, 1) := by decide +kernel
theorem dX2_firstStop_34 : decode cX2_firstStop 34 = .ok (.if_icmp .gt 7, 3) := by decide +kernel
theorem dX2_firstStop_37 : decode cX2_firstStop 37 = .ok (.iconst 1, 1) := by decide +kernel
theorem dX2_firstStop_38 : decode cX2_firstStop 38 = .ok (.goto 4, 3) := by decide +kernel
theorem dX2_firstStop_41 : decode cX2_firstStop 41 = .ok (.iconst 0, 1) := by decide +kernel
theorem dX2_firstStop_42 : decode cX2_firstStop 42 = .ok (.istore 6, 2) := by decide +kernel
theorem dX2_firstStop_44 : decode cX2_firstStop 44 = .ok (.iload 6, 2) := by decide +kernel
theorem dX2_firstStop_46 : decode cX2_firstStop 46 = .ok (.ifCond .eq 41, 3) := by decide +kernel
theorem dX2_firstStop_49 : decode cX2_firstStop 49 = .ok (.aload_n 0, 1) := by decide +kernel
theorem dX2_firstStop_50 : decode cX2_firstStop 50 = .ok (.getfield 16, 3) := by decide +kernel
theorem dX2_firstStop_53 : decode cX2_firstStop 53 = .ok (.iload 5, 2) := by decide +kernel
theorem dX2_firstStop_55 : decode cX2_firstStop 55 = .ok (.iaload, 1) := by decide +kernel
theorem dX2_firstStop_56 : decode cX2_firstStop 56 = .ok (.iload_n 3, 1) := by decide +kernel
theorem dX2_firstStop_57 : decode cX2_firstStop 57 = .ok (.if_icmp .eq 30, 3) := by decide +kernel
theorem dX2_firstStop_60 : decode cX2_firstStop 60 = .ok (.iload 4, 2) := by decide +kernel
theorem dX2_firstStop_62 : decode cX2_firstStop 62 = .ok (.iconst (-1), 1) := by decide +kernel
theorem dX2_firstStop_63 : decode cX2_firstStop 63 = .ok (.if_icmp .eq 15, 3) := by decide +kernel
theorem dX2_firstStop_66 : decode cX2_firstStop 66 = .ok (.aload_n 0, 1) := by decide +kernel
theorem dX2_firstStop_67 : decode cX2_firstStop 67 = .ok (.getfield 13, 3) := by decide +kernel
theorem dX2_firstStop_70 : decode cX2_firstStop 70 = .ok (.iload 5, 2) := by decide +kernel
theorem dX2_firstStop_72 : decode cX2_firstStop 72 = .ok (.iaload, 1) := by decide +kernel
theorem dX2_firstStop_73 : decode cX2_firstStop 73 = .ok (.iload 4, 2) := by decide +kernel
theorem dX2_firstStop_75 : decode cX2_firstStop 75 = .ok (.if_icmp .ge 12, 3) := by decide +kernel
theorem dX2_firstStop_78 : decode cX2_firstStop 78 = .ok (.aload_n 0, 1) := by decide +kernel
theorem dX2_firstStop_79 : decode cX2_firstStop 79 = .ok (.getfield 13, 3) := by decide +kernel
theorem dX2_firstStop_82 : decode cX2_firstStop 82 = .ok (.iload 5, 2) := by decide +kernel
theorem dX2_firstStop_84 : decode cX2_firstStop 84 = .ok (.iaload, 1) := by decide +kernel
theorem dX2_firstStop_85 : decode cX2_firstStop 85 = .ok (.istore 4, 2) := by decide +kernel
theorem dX2_firstStop_87 : decode cX2_firstStop 87 = .ok (.iinc 5 1, 3) := by decide +kernel
theorem dX2_firstStop_90 : decode cX2_firstStop 90 = .ok (.goto (-84), 3) := by decide +kernel
theorem dX2_firstStop_93 : decode cX2_firstStop 93 = .ok (.iload 4, 2) := by decide +kernel
theorem dX2_firstStop_95 : decode cX2_firstStop 95 = .ok (.ireturn, 1) := by decide +kernel
end
section
set_option maxRecDepth 20000 in
theorem ggX3_init_X2_init : GoodIn wsX3_init wsX2_init := goodIn_r _ [14, 15, 2, 3, 16, 17, 18, 19, 20, 46, 47, 48, 49] (by decide +kernel) (by decide +kernel)
set_option maxRecDepth 20000 in
theorem gX3_init_X2_init_n9 : GoodIn wsX3_init (wsX2_init) := ggX3_init_X2_init
set_option maxRecDepth 20000 in
theorem ggX3_init_X1_init : GoodIn wsX3_init wsX1_init := goodIn_r _ [23, 24, 2, 3, 25, 26, 27, 28, 29, 30, 31, 32, 33, 16, 34, 35, 36, 37, 38, 39, 40, 41, 42, 43, 44, 45, 53, 54, 55, 56, 57, 58, 59, 60, 61, 62, 63, 64, 65, 66, 67] (by decide +kernel) (by decide +kernel)
set_option maxRecDepth 20000 in
theorem gX3_init_X1_init : GoodIn wsX3_init (wsX1_init) := ggX3_init_X1_init
theorem dX3_init_0 : decode cX3_init 0 = .ok (.aload_n 0, 1) := by decide +kernel
theorem dX3_init_1 : decode cX3_init 1 = .ok (.invokespecial 1, 3) := by decide +kernel
theorem dX3_init_4 : decode cX3_init 4 = .ok (.aload_n 0, 1) := by decide +kernel
theorem dX3_init_5 : decode cX3_init 5 = .ok (.new 7, 3) := by decide +kernel
theorem dX3_init_8 : decode cX3_init 8 = .ok (.dup, 1) := by decide +kernel
theorem dX3_init_9 : decode cX3_init 9 = .ok (.invokespecial 9, 3) := by decide +kernel
theorem dX3_init_12 : decode cX3_init 12 = .ok (.putfield 10, 3) := by decide +kernel
theorem dX3_init_15 : decode cX3_init 15 = .ok (.aload_n 0, 1) := by decide +kernel
theorem dX3_init_16 : decode cX3_init 16 = .ok (.new 16, 3) := by decide +kernel
theorem dX3_init_19 : decode cX3_init 19 = .ok (.dup, 1) := by decide +kernel
theorem dX3_init_20 : decode cX3_init 20 = .ok (.invokespecial 18, 3) := by decide +kernel
theorem dX3_init_23 : decode cX3_init 23 = .ok (.putfield 19, 3) := by decide +kernel
theorem dX3_init_26 : decode cX3_init 26 = .ok (.aload_n 0, 1) := by decide +kernel
theorem dX3_init_27 : decode cX3_init 27 = .ok (.new 16, 3) := by decide +kernel
theorem dX3_init_30 : decode cX3_init 30 = .ok (.dup, 1) := by decide +kernel
theorem dX3_init_31 : decode cX3_init 31 = .ok (.invokespecial 18, 3) := by decide +kernel
theorem dX3_init_34 : decode cX3_init 34 = .ok (.putfield 23, 3) := by decide +kernel
theorem dX3_init_37 : decode cX3_init 37 = .ok (.return_, 1) := by decide +kernel
set_option maxRecDepth 20000 in
theorem ggX3_setWater_X2_isLane : GoodIn wsX3_setWater wsX2_isLane := goodIn_r _ [10] (by decide +kernel) (by decide +kernel)
set_option maxRecDepth 20000 in
theorem gX3_setWater_X2_isLane : GoodIn wsX3_setWater (va_wsS RX3 26 yX2_isLane wsX2_isLane) := goodIn_app (goodIn_of _ (by decide +kernel)) ggX3_setWater_X2_isLane
theorem dX3_setWater_0 : decode cX3_setWater 0 = .ok (.iload_n 1, 1) := by decide +kernel
theorem dX3_setWater_1 : decode cX3_setWater 1 = .ok (.invokestatic 26, 3) := by decide +kernel
theorem dX3_setWater_4 : decode cX3_setWater 4 = .ok (.ifCond .ne 13, 3) := by decide +kernel
theorem dX3_setWater_7 : decode cX3_setWater 7 = .ok (.new 30, 3) := by decide +kernel
theorem dX3_setWater_10 : decode cX3_setWater 10 = .ok (.dup, 1) := by decide +kernel
theorem dX3_setWater_11 : decode cX3_setWater 11 = .ok (.ldc 32, 2) := by decide +kernel
theorem dX3_setWater_13 : decode cX3_setWater 13 = .ok (.invokespecial 34, 3) := by decide +kernel
theorem dX3_setWater_16 : decode cX3_setWater 16 = .ok (.athrow, 1) := by decide +kernel
theorem dX3_setWater_17 : decode cX3_setWater 17 = .ok (.iload_n 2, 1) := by decide +kernel
theorem dX3_setWater_18 : decode cX3_setWater 18 = .ok (.ifCond .lt 9, 3) := by decide +kernel
theorem dX3_setWater_21 : decode cX3_setWater 21 = .ok (.iload_n 2, 1) := by decide +kernel
theorem dX3_setWater_22 : decode cX3_setWater 22 = .ok (.bipush 6, 2) := by decide +kernel
theorem dX3_setWater_24 : decode cX3_setWater 24 = .ok (.if_icmp .le 13, 3) := by decide +kernel
theorem dX3_setWater_27 : decode cX3_setWater 27 = .ok (.new 37, 3) := by decide +kernel
theorem dX3_setWater_30 : decode cX3_setWater 30 = .ok (.dup, 1) := by decide +kernel
theorem dX3_setWater_31 : decode cX3_setWater 31 = .ok (.ldc 39, 2) := by decide +kernel
theorem dX3_setWater_33 : decode cX3_setWater 33 = .ok (.invokespecial 41, 3) := by decide +kernel
theorem dX3_setWater_36 : decode cX3_setWater 36 = .ok (.athrow, 1) := by decide +kernel
theorem dX3_setWater_37 : decode cX3_setWater 37 = .ok (.aload_n 0, 1) := by decide +kernel
theorem dX3_setWater_38 : decode cX3_setWater 38 = .ok (.getfield 10, 3) := by decide +kernel
theorem dX3_setWater_41 : decode cX3_setWater 41 = .ok (.getfield 42, 3) := by decide +kernel
theorem dX3_setWater_44 : decode cX3_setWater 44 = .ok (.iload_n 1, 1) := by decide +kernel
theorem dX3_setWater_45 : decode cX3_setWater 45 = .ok (.iaload, 1) := by decide +kernel
theorem dX3_setWater_46 : decode cX3_setWater 46 = .ok (.istore_n 3, 1) := by decide +kernel
theorem dX3_setWater_47 : decode cX3_setWater 47 = .ok (.aload_n 0, 1) := by decide +kernel
theorem dX3_setWater_48 : decode cX3_setWater 48 = .ok (.getfield 10, 3) := by decide +kernel
theorem dX3_setWater_51 : decode cX3_setWater 51 = .ok (.getfield 42, 3) := by decide +kernel
theorem dX3_setWater_54 : decode cX3_setWater 54 = .ok (.iload_n 1, 1) := by decide +kernel
theorem dX3_setWater_55 : decode cX3_setWater 55 = .ok (.iload_n 2, 1) := by decide +kernel
theorem dX3_setWater_56 : decode cX3_setWater 56 = .ok (.iastore, 1) := by decide +kernel
theorem dX3_setWater_57 : decode cX3_setWater 57 = .ok (.iload_n 3, 1) := by decide +kernel
theorem dX3_setWater_58 : decode cX3_setWater 58 = .ok (.ireturn, 1) := by decide +kernel
set_option maxRecDepth 20000 in
theorem ggX3_weir_X2_isLane : GoodIn wsX3_weir wsX2_isLane := goodIn_r _ [10] (by decide +kernel) (by decide +kernel)
set_option maxRecDepth 20000 in
theorem gX3_weir_X2_isLane : GoodIn wsX3_weir (va_wsS RX3 26 yX2_isLane wsX2_isLane) := goodIn_app (goodIn_of _ (by decide +kernel)) ggX3_weir_X2_isLane
set_option maxRecDepth 20000 in
theorem ggX3_weir_X2_hasWeirAt : GoodIn wsX3_weir wsX2_hasWeirAt := goodIn_r _ [14, 15, 16, 25, 26, 27, 28] (by decide +kernel) (by decide +kernel)
set_option maxRecDepth 20000 in
theorem gX3_weir_X2_hasWeirAt : GoodIn wsX3_weir (wsV RX3 59 RX2 yX2_hasWeirAt wsX2_hasWeirAt) := goodIn_app (goodIn_of _ (by decide +kernel)) ggX3_weir_X2_hasWeirAt
set_option maxRecDepth 20000 in
theorem ggX3_weir_X2_addWeir : GoodIn wsX3_weir wsX2_addWeir := goodIn_r _ [20, 15, 16, 21, 25, 26, 27, 28] (by decide +kernel) (by decide +kernel)
set_option maxRecDepth 20000 in
theorem gX3_weir_X2_addWeir : GoodIn wsX3_weir (wsV RX3 64 RX2 yX2_addWeir wsX2_addWeir) := goodIn_app (goodIn_of _ (by decide +kernel)) ggX3_weir_X2_addWeir
theorem dX3_weir_0 : decode cX3_weir 0 = .ok (.iload_n 1, 1) := by decide +kernel
theorem dX3_weir_1 : decode cX3_weir 1 = .ok (.iconst 1, 1) := by decide +kernel
theorem dX3_weir_2 : decode cX3_weir 2 = .ok (.if_icmp .lt 10, 3) := by decide +kernel
theorem dX3_weir_5 : decode cX3_weir 5 = .ok (.iload_n 1, 1) := by decide +kernel
theorem dX3_weir_6 : decode cX3_weir 6 = .ok (.sipush 200, 3) := by decide +kernel
theorem dX3_weir_9 : decode cX3_weir 9 = .ok (.if_icmp .lt 13, 3) := by decide +kernel
theorem dX3_weir_12 : decode cX3_weir 12 = .ok (.new 37, 3) := by decide +kernel
theorem dX3_weir_15 : decode cX3_weir 15 = .ok (.dup, 1) := by decide +kernel
theorem dX3_weir_16 : decode cX3_weir 16 = .ok (.ldc 46, 2) := by decide +kernel
theorem dX3_weir_18 : decode cX3_weir 18 = .ok (.invokespecial 41, 3) := by decide +kernel
theorem dX3_weir_21 : decode cX3_weir 21 = .ok (.athrow, 1) := by decide +kernel
theorem dX3_weir_22 : decode cX3_weir 22 = .ok (.iload_n 2, 1) := by decide +kernel
theorem dX3_weir_23 : decode cX3_weir 23 = .ok (.invokestatic 26, 3) := by decide +kernel
theorem dX3_weir_26 : decode cX3_weir 26 = .ok (.ifCond .ne 13, 3) := by decide +kernel
theorem dX3_weir_29 : decode cX3_weir 29 = .ok (.new 37, 3) := by decide +kernel
theorem dX3_weir_32 : decode cX3_weir 32 = .ok (.dup, 1) := by decide +kernel
theorem dX3_weir_33 : decode cX3_weir 33 = .ok (.ldc 48, 2) := by decide +kernel
theorem dX3_weir_35 : decode cX3_weir 35 = .ok (.invokespecial 41, 3) := by decide +kernel
theorem dX3_weir_38 : decode cX3_weir 38 = .ok (.athrow, 1) := by decide +kernel
theorem dX3_weir_39 : decode cX3_weir 39 = .ok (.aload_n 0, 1) := by decide +kernel
theorem dX3_weir_40 : decode cX3_weir 40 = .ok (.getfield 10, 3) := by decide +kernel
theorem dX3_weir_43 : decode cX3_weir 43 = .ok (.getfield 50, 3) := by decide +kernel
theorem dX3_weir_46 : decode cX3_weir 46 = .ok (.bipush 6, 2) := by decide +kernel
theorem dX3_weir_48 : decode cX3_weir 48 = .ok (.if_icmp .lt 13, 3) := by decide +kernel
theorem dX3_weir_51 : decode cX3_weir 51 = .ok (.new 54, 3) := by decide +kernel
theorem dX3_weir_54 : decode cX3_weir 54 = .ok (.dup, 1) := by decide +kernel
theorem dX3_weir_55 : decode cX3_weir 55 = .ok (.ldc 56, 2) := by decide +kernel
theorem dX3_weir_57 : decode cX3_weir 57 = .ok (.invokespecial 58, 3) := by decide +kernel
theorem dX3_weir_60 : decode cX3_weir 60 = .ok (.athrow, 1) := by decide +kernel
theorem dX3_weir_61 : decode cX3_weir 61 = .ok (.aload_n 0, 1) := by decide +kernel
theorem dX3_weir_62 : decode cX3_weir 62 = .ok (.getfield 10, 3) := by decide +kernel
theorem dX3_weir_65 : decode cX3_weir 65 = .ok (.iload_n 1, 1) := by decide +kernel
theorem dX3_weir_66 : decode cX3_weir 66 = .ok (.invokevirtual 59, 3) := by decide +kernel
theorem dX3_weir_69 : decode cX3_weir 69 = .ok (.ifCond .eq 13, 3) := by decide +kernel
theorem dX3_weir_72 : decode cX3_weir 72 = .ok (.new 54, 3) := by decide +kernel
theorem dX3_weir_75 : decode cX3_weir 75 = .ok (.dup, 1) := by decide +kernel
theorem dX3_weir_76 : decode cX3_weir 76 = .ok (.ldc 62, 2) := by decide +kernel
theorem dX3_weir_78 : decode cX3_weir 78 = .ok (.invokespecial 58, 3) := by decide +kernel
theorem dX3_weir_81 : decode cX3_weir 81 = .ok (.athrow, 1) := by decide +kernel
theorem dX3_weir_82 : decode cX3_weir 82 = .ok (.aload_n 0, 1) := by decide +kernel
theorem dX3_weir_83 : decode cX3_weir 83 = .ok (.getfield 10, 3) := by decide +kernel
theorem dX3_weir_86 : decode cX3_weir 86 = .ok (.iload_n 1, 1) := by decide +kernel
theorem dX3_weir_87 : decode cX3_weir 87 = .ok (.iload_n 2, 1) := by decide +kernel
theorem dX3_weir_88 : decode cX3_weir 88 = .ok (.invokevirtual 64, 3) := by decide +kernel
theorem dX3_weir_91 : decode cX3_weir 91 = .ok (.aload_n 0, 1) := by decide +kernel
theorem dX3_weir_92 : decode cX3_weir 92 = .ok (.getfield 10, 3) := by decide +kernel
theorem dX3_weir_95 : decode cX3_weir 95 = .ok (.getfield 50, 3) := by decide +kernel
theorem dX3_weir_98 : decode cX3_weir 98 = .ok (.ireturn, 1) := by decide +kernel
set_option maxRecDepth 20000 in
theorem ggX3_launch_X2_isLane : GoodIn wsX3_launch wsX2_isLane := goodIn_r _ [10] (by decide +kernel) (by decide +kernel)
set_option maxRecDepth 20000 in
theorem gX3_launch_X2_isLane : GoodIn wsX3_launch (va_wsS RX3 26 yX2_isLane wsX2_isLane) := goodIn_app (goodIn_of _ (by decide +kernel)) ggX3_launch_X2_isLane
set_option maxRecDepth 20000 in
theorem ggX3_launch_X1_add : GoodIn wsX3_launch wsX1_add := goodIn_r _ [15, 16, 17, 18, 19, 20, 21, 22, 23, 24, 25, 26, 27, 28, 29, 30, 34, 35, 36, 37, 38, 39, 40, 41, 42, 43, 44, 45, 46, 47, 48] (by decide +kernel) (by decide +kernel)
set_option maxRecDepth 20000 in
theorem gX3_launch_X1_add : GoodIn wsX3_launch (wsV RX3 79 RX1 yX1_add wsX1_add) := goodIn_app (goodIn_of _ (by decide +kernel)) ggX3_launch_X1_add
theorem dX3_launch_0 : decode cX3_launch 0 = .ok (.iload_n 1, 1) := by decide +kernel
theorem dX3_launch_1 : decode cX3_launch 1 = .ok (.invokestatic 26, 3) := by decide +kernel
theorem dX3_launch_4 : decode cX3_launch 4 = .ok (.ifCond .ne 13, 3) := by decide +kernel
theorem dX3_launch_7 : decode cX3_launch 7 = .ok (.new 37, 3) := by decide +kernel
theorem dX3_launch_10 : decode cX3_launch 10 = .ok (.dup, 1) := by decide +kernel
theorem dX3_launch_11 : decode cX3_launch 11 = .ok (.ldc 68, 2) := by decide +kernel
theorem dX3_launch_13 : decode cX3_launch 13 = .ok (.invokespecial 41, 3) := by decide +kernel
theorem dX3_launch_16 : decode cX3_launch 16 = .ok (.athrow, 1) := by decide +kernel
theorem dX3_launch_17 : decode cX3_launch 17 = .ok (.iload_n 2, 1) := by decide +kernel
theorem dX3_launch_18 : decode cX3_launch 18 = .ok (.iconst 1, 1) := by decide +kernel
theorem dX3_launch_19 : decode cX3_launch 19 = .ok (.if_icmp .lt 9, 3) := by decide +kernel
theorem dX3_launch_22 : decode cX3_launch 22 = .ok (.iload_n 2, 1) := by decide +kernel
theorem dX3_launch_23 : decode cX3_launch 23 = .ok (.bipush 8, 2) := by decide +kernel
theorem dX3_launch_25 : decode cX3_launch 25 = .ok (.if_icmp .le 13, 3) := by decide +kernel
theorem dX3_launch_28 : decode cX3_launch 28 = .ok (.new 37, 3) := by decide +kernel
theorem dX3_launch_31 : decode cX3_launch 31 = .ok (.dup, 1) := by decide +kernel
theorem dX3_launch_32 : decode cX3_launch 32 = .ok (.ldc 72, 2) := by decide +kernel
theorem dX3_launch_34 : decode cX3_launch 34 = .ok (.invokespecial 41, 3) := by decide +kernel
theorem dX3_launch_37 : decode cX3_launch 37 = .ok (.athrow, 1) := by decide +kernel
theorem dX3_launch_38 : decode cX3_launch 38 = .ok (.aload_n 0, 1) := by decide +kernel
theorem dX3_launch_39 : decode cX3_launch 39 = .ok (.getfield 19, 3) := by decide +kernel
theorem dX3_launch_42 : decode cX3_launch 42 = .ok (.getfield 74, 3) := by decide +kernel
theorem dX3_launch_45 : decode cX3_launch 45 = .ok (.bipush 6, 2) := by decide +kernel
theorem dX3_launch_47 : decode cX3_launch 47 = .ok (.if_icmp .lt 13, 3) := by decide +kernel
theorem dX3_launch_50 : decode cX3_launch 50 = .ok (.new 54, 3) := by decide +kernel
theorem dX3_launch_53 : decode cX3_launch 53 = .ok (.dup, 1) := by decide +kernel
theorem dX3_launch_54 : decode cX3_launch 54 = .ok (.ldc 77, 2) := by decide +kernel
theorem dX3_launch_56 : decode cX3_launch 56 = .ok (.invokespecial 58, 3) := by decide +kernel
theorem dX3_launch_59 : decode cX3_launch 59 = .ok (.athrow, 1) := by decide +kernel
theorem dX3_launch_60 : decode cX3_launch 60 = .ok (.aload_n 0, 1) := by decide +kernel
theorem dX3_launch_61 : decode cX3_launch 61 = .ok (.getfield 19, 3) := by decide +kernel
theorem dX3_launch_64 : decode cX3_launch 64 = .ok (.iload_n 1, 1) := by decide +kernel
theorem dX3_launch_65 : decode cX3_launch 65 = .ok (.iload_n 2, 1) := by decide +kernel
theorem dX3_launch_66 : decode cX3_launch 66 = .ok (.invokevirtual 79, 3) := by decide +kernel
theorem dX3_launch_69 : decode cX3_launch 69 = .ok (.ireturn, 1) := by decide +kernel
set_option maxRecDepth 20000 in
theorem ggX3_paddle_X1_has : GoodIn wsX3_paddle wsX1_has := goodIn_r _ [12, 13, 28, 29, 30] (by decide +kernel) (by decide +kernel)
set_option maxRecDepth 20000 in
theorem gX3_paddle_X1_has : GoodIn wsX3_paddle (wsV RX3 83 RX1 yX1_has wsX1_has) := goodIn_app (goodIn_of _ (by decide +kernel)) ggX3_paddle_X1_has
set_option maxRecDepth 20000 in
theorem ggX3_paddle_X3_isPattern : GoodIn wsX3_paddle wsX3_isPattern := goodIn_r _ [17] (by decide +kernel) (by decide +kernel)
set_option maxRecDepth 20000 in
theorem gX3_paddle_X3_isPattern : GoodIn wsX3_paddle (va_wsS RX3 90 yX3_isPattern wsX3_isPattern) := goodIn_app (goodIn_of _ (by decide +kernel)) ggX3_paddle_X3_isPattern
set_option maxRecDepth 20000 in
theorem ggX3_paddle_X0_takePattern : GoodIn wsX3_paddle wsX0_takePattern := goodIn_r _ [22, 23, 24, 31, 32, 33, 34, 35, 36, 37, 38, 39, 40, 41, 42] (by decide +kernel) (by decide +kernel)
set_option maxRecDepth 20000 in
theorem gX3_paddle_X0_takePattern : GoodIn wsX3_paddle (wsV RX3 103 RX0 yX0_takePattern wsX0_takePattern) := goodIn_app (goodIn_of _ (by decide +kernel)) ggX3_paddle_X0_takePattern
theorem dX3_paddle_0 : decode cX3_paddle 0 = .ok (.aload_n 0, 1) := by decide +kernel
theorem dX3_paddle_1 : decode cX3_paddle 1 = .ok (.getfield 19, 3) := by decide +kernel
theorem dX3_paddle_4 : decode cX3_paddle 4 = .ok (.iload_n 1, 1) := by decide +kernel
theorem dX3_paddle_5 : decode cX3_paddle 5 = .ok (.invokevirtual 83, 3) := by decide +kernel
theorem dX3_paddle_8 : decode cX3_paddle 8 = .ok (.ifCond .ne 13, 3) := by decide +kernel
theorem dX3_paddle_11 : decode cX3_paddle 11 = .ok (.new 30, 3) := by decide +kernel
theorem dX3_paddle_14 : decode cX3_paddle 14 = .ok (.dup, 1) := by decide +kernel
theorem dX3_paddle_15 : decode cX3_paddle 15 = .ok (.ldc 86, 2) := by decide +kernel
theorem dX3_paddle_17 : decode cX3_paddle 17 = .ok (.invokespecial 34, 3) := by decide +kernel
theorem dX3_paddle_20 : decode cX3_paddle 20 = .ok (.athrow, 1) := by decide +kernel
theorem dX3_paddle_21 : decode cX3_paddle 21 = .ok (.iload_n 2, 1) := by decide +kernel
theorem dX3_paddle_22 : decode cX3_paddle 22 = .ok (.iconst 1, 1) := by decide +kernel
theorem dX3_paddle_23 : decode cX3_paddle 23 = .ok (.if_icmp .lt 9, 3) := by decide +kernel
theorem dX3_paddle_26 : decode cX3_paddle 26 = .ok (.iload_n 2, 1) := by decide +kernel
theorem dX3_paddle_27 : decode cX3_paddle 27 = .ok (.bipush 6, 2) := by decide +kernel
theorem dX3_paddle_29 : decode cX3_paddle 29 = .ok (.if_icmp .le 13, 3) := by decide +kernel
theorem dX3_paddle_32 : decode cX3_paddle 32 = .ok (.new 37, 3) := by decide +kernel
theorem dX3_paddle_35 : decode cX3_paddle 35 = .ok (.dup, 1) := by decide +kernel
theorem dX3_paddle_36 : decode cX3_paddle 36 = .ok (.ldc 88, 2) := by decide +kernel
theorem dX3_paddle_38 : decode cX3_paddle 38 = .ok (.invokespecial 41, 3) := by decide +kernel
theorem dX3_paddle_41 : decode cX3_paddle 41 = .ok (.athrow, 1) := by decide +kernel
theorem dX3_paddle_42 : decode cX3_paddle 42 = .ok (.iload_n 2, 1) := by decide +kernel
theorem dX3_paddle_43 : decode cX3_paddle 43 = .ok (.iload_n 3, 1) := by decide +kernel
theorem dX3_paddle_44 : decode cX3_paddle 44 = .ok (.invokestatic 90, 3) := by decide +kernel
theorem dX3_paddle_47 : decode cX3_paddle 47 = .ok (.ifCond .ne 13, 3) := by decide +kernel
theorem dX3_paddle_50 : decode cX3_paddle 50 = .ok (.new 37, 3) := by decide +kernel
theorem dX3_paddle_53 : decode cX3_paddle 53 = .ok (.dup, 1) := by decide +kernel
theorem dX3_paddle_54 : decode cX3_paddle 54 = .ok (.ldc 94, 2) := by decide +kernel
theorem dX3_paddle_56 : decode cX3_paddle 56 = .ok (.invokespecial 41, 3) := by decide +kernel
theorem dX3_paddle_59 : decode cX3_paddle 59 = .ok (.athrow, 1) := by decide +kernel
theorem dX3_paddle_60 : decode cX3_paddle 60 = .ok (.aload_n 0, 1) := by decide +kernel
theorem dX3_paddle_61 : decode cX3_paddle 61 = .ok (.getfield 19, 3) := by decide +kernel
theorem dX3_paddle_64 : decode cX3_paddle 64 = .ok (.getfield 96, 3) := by decide +kernel
theorem dX3_paddle_67 : decode cX3_paddle 67 = .ok (.iload_n 1, 1) := by decide +kernel
theorem dX3_paddle_68 : decode cX3_paddle 68 = .ok (.aaload, 1) := by decide +kernel
theorem dX3_paddle_69 : decode cX3_paddle 69 = .ok (.getfield 100, 3) := by decide +kernel
theorem dX3_paddle_72 : decode cX3_paddle 72 = .ok (.istore 4, 2) := by decide +kernel
theorem dX3_paddle_74 : decode cX3_paddle 74 = .ok (.aload_n 0, 1) := by decide +kernel
theorem dX3_paddle_75 : decode cX3_paddle 75 = .ok (.getfield 19, 3) := by decide +kernel
theorem dX3_paddle_78 : decode cX3_paddle 78 = .ok (.getfield 96, 3) := by decide +kernel
theorem dX3_paddle_81 : decode cX3_paddle 81 = .ok (.iload_n 1, 1) := by decide +kernel
theorem dX3_paddle_82 : decode cX3_paddle 82 = .ok (.aaload, 1) := by decide +kernel
theorem dX3_paddle_83 : decode cX3_paddle 83 = .ok (.iload_n 2, 1) := by decide +kernel
theorem dX3_paddle_84 : decode cX3_paddle 84 = .ok (.iload_n 3, 1) := by decide +kernel
theorem dX3_paddle_85 : decode cX3_paddle 85 = .ok (.invokevirtual 103, 3) := by decide +kernel
theorem dX3_paddle_88 : decode cX3_paddle 88 = .ok (.iload 4, 2) := by decide +kernel
theorem dX3_paddle_90 : decode cX3_paddle 90 = .ok (.ireturn, 1) := by decide +kernel
set_option maxRecDepth 20000 in
theorem ggX3_tar_X1_has : GoodIn wsX3_tar wsX1_has := goodIn_r _ [11, 12, 28, 29, 30] (by decide +kernel) (by decide +kernel)
set_option maxRecDepth 20000 in
theorem gX3_tar_X1_has : GoodIn wsX3_tar (wsV RX3 83 RX1 yX1_has wsX1_has) := goodIn_app (goodIn_of _ (by decide +kernel)) ggX3_tar_X1_has
set_option maxRecDepth 20000 in
theorem ggX3_tar_X0_isIn : GoodIn wsX3_tar wsX0_isIn := goodIn_r _ [17, 18, 31, 32, 33, 34, 35, 36, 37, 38, 39, 40, 41, 42] (by decide +kernel) (by decide +kernel)
set_option maxRecDepth 20000 in
theorem gX3_tar_X0_isIn : GoodIn wsX3_tar (wsV RX3 106 RX0 yX0_isIn wsX0_isIn) := goodIn_app (goodIn_of _ (by decide +kernel)) ggX3_tar_X0_isIn
set_option maxRecDepth 20000 in
theorem ggX3_tar_X0_dryOut : GoodIn wsX3_tar wsX0_dryOut := goodIn_r _ [22, 23, 24, 31, 32, 33, 34, 35, 36, 37, 38, 39, 40, 41, 42] (by decide +kernel) (by decide +kernel)
set_option maxRecDepth 20000 in
theorem gX3_tar_X0_dryOut : GoodIn wsX3_tar (wsV RX3 112 RX0 yX0_dryOut wsX0_dryOut) := goodIn_app (goodIn_of _ (by decide +kernel)) ggX3_tar_X0_dryOut
theorem dX3_tar_0 : decode cX3_tar 0 = .ok (.aload_n 0, 1) := by decide +kernel
theorem dX3_tar_1 : decode cX3_tar 1 = .ok (.getfield 19, 3) := by decide +kernel
theorem dX3_tar_4 : decode cX3_tar 4 = .ok (.iload_n 1, 1) := by decide +kernel
theorem dX3_tar_5 : decode cX3_tar 5 = .ok (.invokevirtual 83, 3) := by decide +kernel
theorem dX3_tar_8 : decode cX3_tar 8 = .ok (.ifCond .ne 13, 3) := by decide +kernel
theorem dX3_tar_11 : decode cX3_tar 11 = .ok (.new 30, 3) := by decide +kernel
theorem dX3_tar_14 : decode cX3_tar 14 = .ok (.dup, 1) := by decide +kernel
theorem dX3_tar_15 : decode cX3_tar 15 = .ok (.ldc 86, 2) := by decide +kernel
theorem dX3_tar_17 : decode cX3_tar 17 = .ok (.invokespecial 34, 3) := by decide +kernel
theorem dX3_tar_20 : decode cX3_tar 20 = .ok (.athrow, 1) := by decide +kernel
theorem dX3_tar_21 : decode cX3_tar 21 = .ok (.aload_n 0, 1) := by decide +kernel
theorem dX3_tar_22 : decode cX3_tar 22 = .ok (.getfield 19, 3) := by decide +kernel
theorem dX3_tar_25 : decode cX3_tar 25 = .ok (.getfield 96, 3) := by decide +kernel
theorem dX3_tar_28 : decode cX3_tar 28 = .ok (.iload_n 1, 1) := by decide +kernel
theorem dX3_tar_29 : decode cX3_tar 29 = .ok (.aaload, 1) := by decide +kernel
theorem dX3_tar_30 : decode cX3_tar 30 = .ok (.invokevirtual 106, 3) := by decide +kernel
theorem dX3_tar_33 : decode cX3_tar 33 = .ok (.ifCond .eq 13, 3) := by decide +kernel
theorem dX3_tar_36 : decode cX3_tar 36 = .ok (.new 54, 3) := by decide +kernel
theorem dX3_tar_39 : decode cX3_tar 39 = .ok (.dup, 1) := by decide +kernel
theorem dX3_tar_40 : decode cX3_tar 40 = .ok (.ldc 110, 2) := by decide +kernel
theorem dX3_tar_42 : decode cX3_tar 42 = .ok (.invokespecial 58, 3) := by decide +kernel
theorem dX3_tar_45 : decode cX3_tar 45 = .ok (.athrow, 1) := by decide +kernel
theorem dX3_tar_46 : decode cX3_tar 46 = .ok (.aload_n 0, 1) := by decide +kernel
theorem dX3_tar_47 : decode cX3_tar 47 = .ok (.getfield 19, 3) := by decide +kernel
theorem dX3_tar_50 : decode cX3_tar 50 = .ok (.getfield 96, 3) := by decide +kernel
theorem dX3_tar_53 : decode cX3_tar 53 = .ok (.iload_n 1, 1) := by decide +kernel
theorem dX3_tar_54 : decode cX3_tar 54 = .ok (.aaload, 1) := by decide +kernel
theorem dX3_tar_55 : decode cX3_tar 55 = .ok (.invokevirtual 112, 3) := by decide +kernel
theorem dX3_tar_58 : decode cX3_tar 58 = .ok (.ireturn, 1) := by decide +kernel
set_option maxRecDepth 20000 in
theorem ggX3_boat_X1_has : GoodIn wsX3_boat wsX1_has := goodIn_r _ [9, 10, 32, 33, 34] (by decide +kernel) (by decide +kernel)
set_option maxRecDepth 20000 in
theorem gX3_boat_X1_has : GoodIn wsX3_boat (wsV RX3 83 RX1 yX1_has wsX1_has) := goodIn_app (goodIn_of _ (by decide +kernel)) ggX3_boat_X1_has
set_option maxRecDepth 20000 in
theorem ggX3_boat_X0_fact : GoodIn wsX3_boat wsX0_fact := goodIn_r _ [15, 16, 17, 18, 19, 20, 21, 22, 23, 24, 25, 26, 14, 27, 28, 35, 36, 37, 38, 39, 40, 41, 42, 43, 44, 45, 46] (by decide +kernel) (by decide +kernel)
set_option maxRecDepth 20000 in
theorem gX3_boat_X0_fact : GoodIn wsX3_boat (wsV RX3 118 RX0 yX0_fact wsX0_fact) := goodIn_app (goodIn_of _ (by decide +kernel)) ggX3_boat_X0_fact
theorem dX3_boat_0 : decode cX3_boat 0 = .ok (.aload_n 0, 1) := by decide +kernel
theorem dX3_boat_1 : decode cX3_boat 1 = .ok (.getfield 19, 3) := by decide +kernel
theorem dX3_boat_4 : decode cX3_boat 4 = .ok (.iload_n 1, 1) := by decide +kernel
theorem dX3_boat_5 : decode cX3_boat 5 = .ok (.invokevirtual 83, 3) := by decide +kernel
theorem dX3_boat_8 : decode cX3_boat 8 = .ok (.ifCond .ne 13, 3) := by decide +kernel
theorem dX3_boat_11 : decode cX3_boat 11 = .ok (.new 30, 3) := by decide +kernel
theorem dX3_boat_14 : decode cX3_boat 14 = .ok (.dup, 1) := by decide +kernel
theorem dX3_boat_15 : decode cX3_boat 15 = .ok (.ldc 86, 2) := by decide +kernel
theorem dX3_boat_17 : decode cX3_boat 17 = .ok (.invokespecial 34, 3) := by decide +kernel
theorem dX3_boat_20 : decode cX3_boat 20 = .ok (.athrow, 1) := by decide +kernel
theorem dX3_boat_21 : decode cX3_boat 21 = .ok (.iload_n 2, 1) := by decide +kernel
theorem dX3_boat_22 : decode cX3_boat 22 = .ok (.ifCond .lt 9, 3) := by decide +kernel
theorem dX3_boat_25 : decode cX3_boat 25 = .ok (.iload_n 2, 1) := by decide +kernel
theorem dX3_boat_26 : decode cX3_boat 26 = .ok (.bipush 8, 2) := by decide +kernel
theorem dX3_boat_28 : decode cX3_boat 28 = .ok (.if_icmp .le 13, 3) := by decide +kernel
theorem dX3_boat_31 : decode cX3_boat 31 = .ok (.new 30, 3) := by decide +kernel
theorem dX3_boat_34 : decode cX3_boat 34 = .ok (.dup, 1) := by decide +kernel
theorem dX3_boat_35 : decode cX3_boat 35 = .ok (.ldc 116, 2) := by decide +kernel
theorem dX3_boat_37 : decode cX3_boat 37 = .ok (.invokespecial 34, 3) := by decide +kernel
theorem dX3_boat_40 : decode cX3_boat 40 = .ok (.athrow, 1) := by decide +kernel
theorem dX3_boat_41 : decode cX3_boat 41 = .ok (.aload_n 0, 1) := by decide +kernel
theorem dX3_boat_42 : decode cX3_boat 42 = .ok (.getfield 19, 3) := by decide +kernel
theorem dX3_boat_45 : decode cX3_boat 45 = .ok (.getfield 96, 3) := by decide +kernel
theorem dX3_boat_48 : decode cX3_boat 48 = .ok (.iload_n 1, 1) := by decide +kernel
theorem dX3_boat_49 : decode cX3_boat 49 = .ok (.aaload, 1) := by decide +kernel
theorem dX3_boat_50 : decode cX3_boat 50 = .ok (.iload_n 2, 1) := by decide +kernel
theorem dX3_boat_51 : decode cX3_boat 51 = .ok (.invokevirtual 118, 3) := by decide +kernel
theorem dX3_boat_54 : decode cX3_boat 54 = .ok (.ireturn, 1) := by decide +kernel
set_option maxRecDepth 20000 in
theorem ggX3_count_X3_countIn : GoodIn wsX3_count wsX3_countIn := goodIn_r _ [8, 9, 10, 11, 12, 13, 14, 15, 16, 17, 18, 19, 20, 21, 22, 23, 24, 25, 26, 27, 28, 29, 30, 31, 32, 33, 34, 35, 36, 37, 38, 39, 40, 41, 42, 43, 44, 45, 49, 50, 51, 46, 47, 48, 52, 53, 54, 55, 56, 57, 58, 59, 60, 61, 62, 63, 64, 65, 66, 67] (by decide +kernel) (by decide +kernel)
set_option maxRecDepth 20000 in
theorem gX3_count_X3_countIn : GoodIn wsX3_count (wsV RX3 124 RX3 yX3_countIn wsX3_countIn) := goodIn_app (goodIn_of _ (by decide +kernel)) ggX3_count_X3_countIn
theorem dX3_count_0 : decode cX3_count 0 = .ok (.iload_n 1, 1) := by decide +kernel
theorem dX3_count_1 : decode cX3_count 1 = .ok (.ifCond .lt 9, 3) := by decide +kernel
theorem dX3_count_4 : decode cX3_count 4 = .ok (.iload_n 1, 1) := by decide +kernel
theorem dX3_count_5 : decode cX3_count 5 = .ok (.bipush 6, 2) := by decide +kernel
theorem dX3_count_7 : decode cX3_count 7 = .ok (.if_icmp .le 13, 3) := by decide +kernel
theorem dX3_count_10 : decode cX3_count 10 = .ok (.new 30, 3) := by decide +kernel
theorem dX3_count_13 : decode cX3_count 13 = .ok (.dup, 1) := by decide +kernel
theorem dX3_count_14 : decode cX3_count 14 = .ok (.ldc 122, 2) := by decide +kernel
theorem dX3_count_16 : decode cX3_count 16 = .ok (.invokespecial 34, 3) := by decide +kernel
theorem dX3_count_19 : decode cX3_count 19 = .ok (.athrow, 1) := by decide +kernel
theorem dX3_count_20 : decode cX3_count 20 = .ok (.aload_n 0, 1) := by decide +kernel
theorem dX3_count_21 : decode cX3_count 21 = .ok (.aload_n 0, 1) := by decide +kernel
theorem dX3_count_22 : decode cX3_count 22 = .ok (.getfield 19, 3) := by decide +kernel
theorem dX3_count_25 : decode cX3_count 25 = .ok (.iload_n 1, 1) := by decide +kernel
theorem dX3_count_26 : decode cX3_count 26 = .ok (.invokevirtual 124, 3) := by decide +kernel
theorem dX3_count_29 : decode cX3_count 29 = .ok (.ireturn, 1) := by decide +kernel
set_option maxRecDepth 20000 in
theorem ggX3_rank_X1_has : GoodIn wsX3_rank wsX1_has := goodIn_r _ [9, 10, 32, 33, 34] (by decide +kernel) (by decide +kernel)
set_option maxRecDepth 20000 in
theorem gX3_rank_X1_has : GoodIn wsX3_rank (wsV RX3 83 RX1 yX1_has wsX1_has) := goodIn_app (goodIn_of _ (by decide +kernel)) ggX3_rank_X1_has
set_option maxRecDepth 20000 in
theorem ggX3_rank_X1_rankOf : GoodIn wsX3_rank wsX1_rankOf := goodIn_r _ [14, 10, 15, 16, 17, 18, 19, 20, 21, 22, 23, 24, 25, 26, 27, 28, 32, 33, 34, 35, 36, 37, 38, 39, 40, 41, 42, 43, 44, 45, 46] (by decide +kernel) (by decide +kernel)
set_option maxRecDepth 20000 in
theorem gX3_rank_X1_rankOf : GoodIn wsX3_rank (wsV RX3 133 RX1 yX1_rankOf wsX1_rankOf) := goodIn_app (goodIn_of _ (by decide +kernel)) ggX3_rank_X1_rankOf
theorem dX3_rank_0 : decode cX3_rank 0 = .ok (.aload_n 0, 1) := by decide +kernel
theorem dX3_rank_1 : decode cX3_rank 1 = .ok (.getfield 19, 3) := by decide +kernel
theorem dX3_rank_4 : decode cX3_rank 4 = .ok (.iload_n 1, 1) := by decide +kernel
theorem dX3_rank_5 : decode cX3_rank 5 = .ok (.invokevirtual 83, 3) := by decide +kernel
theorem dX3_rank_8 : decode cX3_rank 8 = .ok (.ifCond .ne 13, 3) := by decide +kernel
theorem dX3_rank_11 : decode cX3_rank 11 = .ok (.new 30, 3) := by decide +kernel
theorem dX3_rank_14 : decode cX3_rank 14 = .ok (.dup, 1) := by decide +kernel
theorem dX3_rank_15 : decode cX3_rank 15 = .ok (.ldc 86, 2) := by decide +kernel
theorem dX3_rank_17 : decode cX3_rank 17 = .ok (.invokespecial 34, 3) := by decide +kernel
theorem dX3_rank_20 : decode cX3_rank 20 = .ok (.athrow, 1) := by decide +kernel
theorem dX3_rank_21 : decode cX3_rank 21 = .ok (.aload_n 0, 1) := by decide +kernel
theorem dX3_rank_22 : decode cX3_rank 22 = .ok (.getfield 19, 3) := by decide +kernel
theorem dX3_rank_25 : decode cX3_rank 25 = .ok (.aload_n 0, 1) := by decide +kernel
theorem dX3_rank_26 : decode cX3_rank 26 = .ok (.getfield 19, 3) := by decide +kernel
theorem dX3_rank_29 : decode cX3_rank 29 = .ok (.getfield 96, 3) := by decide +kernel
theorem dX3_rank_32 : decode cX3_rank 32 = .ok (.iload_n 1, 1) := by decide +kernel
theorem dX3_rank_33 : decode cX3_rank 33 = .ok (.aaload, 1) := by decide +kernel
theorem dX3_rank_34 : decode cX3_rank 34 = .ok (.invokevirtual 133, 3) := by decide +kernel
theorem dX3_rank_37 : decode cX3_rank 37 = .ok (.ireturn, 1) := by decide +kernel
set_option maxRecDepth 20000 in
theorem ggX3_go_X1_boatsIn : GoodIn wsX3_go wsX1_boatsIn := goodIn_r _ [9, 10, 11, 12, 13, 14, 15, 16, 17, 91, 92, 93, 94, 95, 96, 97, 98, 99, 100, 101, 102, 103, 104, 105] (by decide +kernel) (by decide +kernel)
set_option maxRecDepth 20000 in
theorem gX3_go_X1_boatsIn : GoodIn wsX3_go (wsV RX3 139 RX1 yX1_boatsIn wsX1_boatsIn) := goodIn_app (goodIn_of _ (by decide +kernel)) ggX3_go_X1_boatsIn
set_option maxRecDepth 20000 in
theorem ggX3_go_X1_letTicksGoBy : GoodIn wsX3_go wsX1_letTicksGoBy := goodIn_r _ [21, 10, 11, 22, 23, 24, 25, 15, 26, 17, 27, 28, 29, 30, 31, 32, 33, 34, 35, 36, 37, 38, 39, 40, 41, 42, 43, 44, 45, 46, 47, 48, 49, 50, 51, 52, 53, 54, 55, 56, 57, 58, 59, 60, 61, 62, 63, 64, 65, 66, 67, 68, 69, 70, 71, 72, 73, 74, 75, 76, 77, 78, 79, 80, 81, 82, 83, 84, 85, 86, 87, 91, 92, 93, 94, 95, 96, 97, 98, 99, 100, 101, 102, 103, 104, 105, 106, 107, 108, 109] (by decide +kernel) (by decide +kernel)
set_option maxRecDepth 20000 in
theorem gX3_go_X1_letTicksGoBy : GoodIn wsX3_go (wsV RX3 142 RX1 yX1_letTicksGoBy wsX1_letTicksGoBy) := goodIn_app (goodIn_of _ (by decide +kernel)) ggX3_go_X1_letTicksGoBy
theorem dX3_go_0 : decode cX3_go 0 = .ok (.iload_n 1, 1) := by decide +kernel
theorem dX3_go_1 : decode cX3_go 1 = .ok (.iconst 1, 1) := by decide +kernel
theorem dX3_go_2 : decode cX3_go 2 = .ok (.if_icmp .lt 10, 3) := by decide +kernel
theorem dX3_go_5 : decode cX3_go 5 = .ok (.iload_n 1, 1) := by decide +kernel
theorem dX3_go_6 : decode cX3_go 6 = .ok (.sipush 200, 3) := by decide +kernel
theorem dX3_go_9 : decode cX3_go 9 = .ok (.if_icmp .le 13, 3) := by decide +kernel
theorem dX3_go_12 : decode cX3_go 12 = .ok (.new 37, 3) := by decide +kernel
theorem dX3_go_15 : decode cX3_go 15 = .ok (.dup, 1) := by decide +kernel
theorem dX3_go_16 : decode cX3_go 16 = .ok (.ldc 137, 2) := by decide +kernel
theorem dX3_go_18 : decode cX3_go 18 = .ok (.invokespecial 41, 3) := by decide +kernel
theorem dX3_go_21 : decode cX3_go 21 = .ok (.athrow, 1) := by decide +kernel
theorem dX3_go_22 : decode cX3_go 22 = .ok (.aload_n 0, 1) := by decide +kernel
theorem dX3_go_23 : decode cX3_go 23 = .ok (.getfield 19, 3) := by decide +kernel
theorem dX3_go_26 : decode cX3_go 26 = .ok (.invokevirtual 139, 3) := by decide +kernel
theorem dX3_go_29 : decode cX3_go 29 = .ok (.istore_n 2, 1) := by decide +kernel
theorem dX3_go_30 : decode cX3_go 30 = .ok (.aload_n 0, 1) := by decide +kernel
theorem dX3_go_31 : decode cX3_go 31 = .ok (.getfield 19, 3) := by decide +kernel
theorem dX3_go_34 : decode cX3_go 34 = .ok (.aload_n 0, 1) := by decide +kernel
theorem dX3_go_35 : decode cX3_go 35 = .ok (.getfield 10, 3) := by decide +kernel
theorem dX3_go_38 : decode cX3_go 38 = .ok (.iload_n 1, 1) := by decide +kernel
theorem dX3_go_39 : decode cX3_go 39 = .ok (.invokevirtual 142, 3) := by decide +kernel
theorem dX3_go_42 : decode cX3_go 42 = .ok (.aload_n 0, 1) := by decide +kernel
theorem dX3_go_43 : decode cX3_go 43 = .ok (.getfield 19, 3) := by decide +kernel
theorem dX3_go_46 : decode cX3_go 46 = .ok (.invokevirtual 139, 3) := by decide +kernel
theorem dX3_go_49 : decode cX3_go 49 = .ok (.iload_n 2, 1) := by decide +kernel
theorem dX3_go_50 : decode cX3_go 50 = .ok (.isub, 1) := by decide +kernel
theorem dX3_go_51 : decode cX3_go 51 = .ok (.ireturn, 1) := by decide +kernel
set_option maxRecDepth 20000 in
theorem ggX3_arrives_X1_has : GoodIn wsX3_arrives wsX1_has := goodIn_r _ [12, 13, 96, 97, 98] (by decide +kernel) (by decide +kernel)
set_option maxRecDepth 20000 in
theorem gX3_arrives_X1_has : GoodIn wsX3_arrives (wsV RX3 83 RX1 yX1_has wsX1_has) := goodIn_app (goodIn_of _ (by decide +kernel)) ggX3_arrives_X1_has
set_option maxRecDepth 20000 in
theorem ggX3_arrives_X0_copyFrom : GoodIn wsX3_arrives wsX0_copyFrom := goodIn_r _ [18, 19, 20, 21, 22, 23, 24, 25, 26, 27, 28, 29, 30, 31, 32, 33, 34, 99, 100, 101, 102, 103, 104, 105, 106, 107, 108, 109, 110] (by decide +kernel) (by decide +kernel)
set_option maxRecDepth 20000 in
theorem gX3_arrives_X0_copyFrom : GoodIn wsX3_arrives (wsV RX3 146 RX0 yX0_copyFrom wsX0_copyFrom) := goodIn_app (goodIn_of _ (by decide +kernel)) ggX3_arrives_X0_copyFrom
set_option maxRecDepth 20000 in
theorem ggX3_arrives_X0_isIn : GoodIn wsX3_arrives wsX0_isIn := goodIn_r _ [38, 31, 99, 100, 101, 102, 103, 104, 105, 106, 107, 108, 109, 110] (by decide +kernel) (by decide +kernel)
set_option maxRecDepth 20000 in
theorem gX3_arrives_X0_isIn : GoodIn wsX3_arrives (wsV RX3 106 RX0 yX0_isIn wsX0_isIn) := goodIn_app (goodIn_of _ (by decide +kernel)) ggX3_arrives_X0_isIn
set_option maxRecDepth 20000 in
theorem ggX3_arrives_X0_letTickGoBy : GoodIn wsX3_arrives wsX0_letTickGoBy := goodIn_r _ [42, 31, 26, 32, 43, 44, 45, 17, 46, 24, 19, 47, 48, 49, 50, 51, 52, 53, 54, 28, 33, 29, 55, 56, 57, 58, 59, 60, 61, 62, 25, 63, 64, 65, 66, 27, 30, 67, 68, 69, 70, 71, 72, 73, 74, 75, 76, 77, 78, 79, 80, 81, 34, 82, 83, 84, 85, 86, 87, 88, 89, 90, 91, 92, 99, 100, 101, 102, 103, 104, 105, 106, 107, 108, 109, 110, 111, 112, 113, 114] (by decide +kernel) (by decide +kernel)
set_option maxRecDepth 20000 in
theorem gX3_arrives_X0_letTickGoBy : GoodIn wsX3_arrives (wsV RX3 153 RX0 yX0_letTickGoBy wsX0_letTickGoBy) := goodIn_app (goodIn_of _ (by decide +kernel)) ggX3_arrives_X0_letTickGoBy
theorem dX3_arrives_0 : decode cX3_arrives 0 = .ok (.aload_n 0, 1) := by decide +kernel
theorem dX3_arrives_1 : decode cX3_arrives 1 = .ok (.getfield 19, 3) := by decide +kernel
theorem dX3_arrives_4 : decode cX3_arrives 4 = .ok (.iload_n 1, 1) := by decide +kernel
theorem dX3_arrives_5 : decode cX3_arrives 5 = .ok (.invokevirtual 83, 3) := by decide +kernel
theorem dX3_arrives_8 : decode cX3_arrives 8 = .ok (.ifCond .ne 13, 3) := by decide +kernel
theorem dX3_arrives_11 : decode cX3_arrives 11 = .ok (.new 30, 3) := by decide +kernel
theorem dX3_arrives_14 : decode cX3_arrives 14 = .ok (.dup, 1) := by decide +kernel
theorem dX3_arrives_15 : decode cX3_arrives 15 = .ok (.ldc 86, 2) := by decide +kernel
theorem dX3_arrives_17 : decode cX3_arrives 17 = .ok (.invokespecial 34, 3) := by decide +kernel
theorem dX3_arrives_20 : decode cX3_arrives 20 = .ok (.athrow, 1) := by decide +kernel
theorem dX3_arrives_21 : decode cX3_arrives 21 = .ok (.aload_n 0, 1) := by decide +kernel
theorem dX3_arrives_22 : decode cX3_arrives 22 = .ok (.getfield 23, 3) := by decide +kernel
theorem dX3_arrives_25 : decode cX3_arrives 25 = .ok (.getfield 96, 3) := by decide +kernel
theorem dX3_arrives_28 : decode cX3_arrives 28 = .ok (.iload_n 1, 1) := by decide +kernel
theorem dX3_arrives_29 : decode cX3_arrives 29 = .ok (.aaload, 1) := by decide +kernel
theorem dX3_arrives_30 : decode cX3_arrives 30 = .ok (.astore_n 2, 1) := by decide +kernel
theorem dX3_arrives_31 : decode cX3_arrives 31 = .ok (.aload_n 2, 1) := by decide +kernel
theorem dX3_arrives_32 : decode cX3_arrives 32 = .ok (.aload_n 0, 1) := by decide +kernel
theorem dX3_arrives_33 : decode cX3_arrives 33 = .ok (.getfield 19, 3) := by decide +kernel
theorem dX3_arrives_36 : decode cX3_arrives 36 = .ok (.getfield 96, 3) := by decide +kernel
theorem dX3_arrives_39 : decode cX3_arrives 39 = .ok (.iload_n 1, 1) := by decide +kernel
theorem dX3_arrives_40 : decode cX3_arrives 40 = .ok (.aaload, 1) := by decide +kernel
theorem dX3_arrives_41 : decode cX3_arrives 41 = .ok (.invokevirtual 146, 3) := by decide +kernel
theorem dX3_arrives_44 : decode cX3_arrives 44 = .ok (.aload_n 2, 1) := by decide +kernel
theorem dX3_arrives_45 : decode cX3_arrives 45 = .ok (.invokevirtual 106, 3) := by decide +kernel
theorem dX3_arrives_48 : decode cX3_arrives 48 = .ok (.ifCond .eq 5, 3) := by decide +kernel
theorem dX3_arrives_51 : decode cX3_arrives 51 = .ok (.iconst 0, 1) := by decide +kernel
theorem dX3_arrives_52 : decode cX3_arrives 52 = .ok (.ireturn, 1) := by decide +kernel
theorem dX3_arrives_53 : decode cX3_arrives 53 = .ok (.iconst 1, 1) := by decide +kernel
theorem dX3_arrives_54 : decode cX3_arrives 54 = .ok (.istore_n 3, 1) := by decide +kernel
theorem dX3_arrives_55 : decode cX3_arrives 55 = .ok (.iload_n 3, 1) := by decide +kernel
theorem dX3_arrives_56 : decode cX3_arrives 56 = .ok (.sipush 400, 3) := by decide +kernel
theorem dX3_arrives_59 : decode cX3_arrives 59 = .ok (.if_icmp .gt 37, 3) := by decide +kernel
theorem dX3_arrives_62 : decode cX3_arrives 62 = .ok (.aload_n 2, 1) := by decide +kernel
theorem dX3_arrives_63 : decode cX3_arrives 63 = .ok (.aload_n 0, 1) := by decide +kernel
theorem dX3_arrives_64 : decode cX3_arrives 64 = .ok (.getfield 10, 3) := by decide +kernel
theorem dX3_arrives_67 : decode cX3_arrives 67 = .ok (.aload_n 0, 1) := by decide +kernel
theorem dX3_arrives_68 : decode cX3_arrives 68 = .ok (.getfield 19, 3) := by decide +kernel
theorem dX3_arrives_71 : decode cX3_arrives 71 = .ok (.getfield 150, 3) := by decide +kernel
theorem dX3_arrives_74 : decode cX3_arrives 74 = .ok (.iload_n 3, 1) := by decide +kernel
theorem dX3_arrives_75 : decode cX3_arrives 75 = .ok (.iadd, 1) := by decide +kernel
theorem dX3_arrives_76 : decode cX3_arrives 76 = .ok (.iconst 1, 1) := by decide +kernel
theorem dX3_arrives_77 : decode cX3_arrives 77 = .ok (.isub, 1) := by decide +kernel
theorem dX3_arrives_78 : decode cX3_arrives 78 = .ok (.invokevirtual 153, 3) := by decide +kernel
theorem dX3_arrives_81 : decode cX3_arrives 81 = .ok (.aload_n 2, 1) := by decide +kernel
theorem dX3_arrives_82 : decode cX3_arrives 82 = .ok (.invokevirtual 106, 3) := by decide +kernel
theorem dX3_arrives_85 : decode cX3_arrives 85 = .ok (.ifCond .eq 5, 3) := by decide +kernel
theorem dX3_arrives_88 : decode cX3_arrives 88 = .ok (.iload_n 3, 1) := by decide +kernel
theorem dX3_arrives_89 : decode cX3_arrives 89 = .ok (.ireturn, 1) := by decide +kernel
theorem dX3_arrives_90 : decode cX3_arrives 90 = .ok (.iinc 3 1, 3) := by decide +kernel
theorem dX3_arrives_93 : decode cX3_arrives 93 = .ok (.goto (-38), 3) := by decide +kernel
theorem dX3_arrives_96 : decode cX3_arrives 96 = .ok (.iconst (-1), 1) := by decide +kernel
theorem dX3_arrives_97 : decode cX3_arrives 97 = .ok (.ireturn, 1) := by decide +kernel
set_option maxRecDepth 20000 in
theorem ggX3_foresee_X1_copyFrom : GoodIn wsX3_foresee wsX1_copyFrom := goodIn_r _ [12, 13, 14, 15, 16, 17, 18, 19, 20, 21, 22, 23, 24, 25, 26, 27, 28, 29, 30, 31, 32, 33, 34, 35, 36, 132, 133, 134, 135, 136, 137, 138, 139, 140, 141, 142, 143, 144, 145, 146] (by decide +kernel) (by decide +kernel)
set_option maxRecDepth 20000 in
theorem gX3_foresee_X1_copyFrom : GoodIn wsX3_foresee (wsV RX3 158 RX1 yX1_copyFrom wsX1_copyFrom) := goodIn_app (goodIn_of _ (by decide +kernel)) ggX3_foresee_X1_copyFrom
set_option maxRecDepth 20000 in
theorem ggX3_foresee_X1_letTicksGoBy : GoodIn wsX3_foresee wsX1_letTicksGoBy := goodIn_r _ [40, 13, 15, 14, 41, 42, 43, 19, 44, 33, 28, 34, 45, 46, 47, 48, 26, 21, 49, 50, 51, 52, 53, 54, 55, 56, 30, 35, 31, 57, 58, 59, 60, 61, 62, 63, 64, 27, 65, 66, 67, 68, 29, 32, 69, 70, 71, 72, 73, 74, 75, 76, 77, 78, 79, 80, 81, 82, 83, 36, 84, 85, 86, 87, 88, 89, 90, 91, 92, 93, 94, 132, 133, 134, 135, 136, 137, 138, 139, 140, 141, 142, 143, 144, 145, 146, 147, 148, 149, 150] (by decide +kernel) (by decide +kernel)
set_option maxRecDepth 20000 in
theorem gX3_foresee_X1_letTicksGoBy : GoodIn wsX3_foresee (wsV RX3 142 RX1 yX1_letTicksGoBy wsX1_letTicksGoBy) := goodIn_app (goodIn_of _ (by decide +kernel)) ggX3_foresee_X1_letTicksGoBy
set_option maxRecDepth 20000 in
theorem ggX3_foresee_X3_countIn : GoodIn wsX3_foresee wsX3_countIn := goodIn_r _ [99, 100, 101, 7, 102, 103, 104, 105, 11, 106, 13, 15, 107, 108, 109, 19, 110, 33, 111, 112, 113, 114, 115, 116, 117, 118, 119, 120, 121, 122, 123, 124, 125, 126, 127, 128, 34, 32, 132, 133, 134, 129, 130, 131, 147, 148, 149, 150, 135, 136, 137, 138, 139, 140, 141, 142, 143, 144, 145, 146] (by decide +kernel) (by decide +kernel)
set_option maxRecDepth 20000 in
theorem gX3_foresee_X3_countIn : GoodIn wsX3_foresee (wsV RX3 124 RX3 yX3_countIn wsX3_countIn) := goodIn_app (goodIn_of _ (by decide +kernel)) ggX3_foresee_X3_countIn
theorem dX3_foresee_0 : decode cX3_foresee 0 = .ok (.iload_n 1, 1) := by decide +kernel
theorem dX3_foresee_1 : decode cX3_foresee 1 = .ok (.iconst 1, 1) := by decide +kernel
theorem dX3_foresee_2 : decode cX3_foresee 2 = .ok (.if_icmp .lt 10, 3) := by decide +kernel
theorem dX3_foresee_5 : decode cX3_foresee 5 = .ok (.iload_n 1, 1) := by decide +kernel
theorem dX3_foresee_6 : decode cX3_foresee 6 = .ok (.sipush 200, 3) := by decide +kernel
theorem dX3_foresee_9 : decode cX3_foresee 9 = .ok (.if_icmp .le 13, 3) := by decide +kernel
theorem dX3_foresee_12 : decode cX3_foresee 12 = .ok (.new 37, 3) := by decide +kernel
theorem dX3_foresee_15 : decode cX3_foresee 15 = .ok (.dup, 1) := by decide +kernel
theorem dX3_foresee_16 : decode cX3_foresee 16 = .ok (.ldc 137, 2) := by decide +kernel
theorem dX3_foresee_18 : decode cX3_foresee 18 = .ok (.invokespecial 41, 3) := by decide +kernel
theorem dX3_foresee_21 : decode cX3_foresee 21 = .ok (.athrow, 1) := by decide +kernel
theorem dX3_foresee_22 : decode cX3_foresee 22 = .ok (.iload_n 2, 1) := by decide +kernel
theorem dX3_foresee_23 : decode cX3_foresee 23 = .ok (.iconst 3, 1) := by decide +kernel
theorem dX3_foresee_24 : decode cX3_foresee 24 = .ok (.if_icmp .lt 9, 3) := by decide +kernel
theorem dX3_foresee_27 : decode cX3_foresee 27 = .ok (.iload_n 2, 1) := by decide +kernel
theorem dX3_foresee_28 : decode cX3_foresee 28 = .ok (.bipush 6, 2) := by decide +kernel
theorem dX3_foresee_30 : decode cX3_foresee 30 = .ok (.if_icmp .le 13, 3) := by decide +kernel
theorem dX3_foresee_33 : decode cX3_foresee 33 = .ok (.new 30, 3) := by decide +kernel
theorem dX3_foresee_36 : decode cX3_foresee 36 = .ok (.dup, 1) := by decide +kernel
theorem dX3_foresee_37 : decode cX3_foresee 37 = .ok (.ldc 156, 2) := by decide +kernel
theorem dX3_foresee_39 : decode cX3_foresee 39 = .ok (.invokespecial 34, 3) := by decide +kernel
theorem dX3_foresee_42 : decode cX3_foresee 42 = .ok (.athrow, 1) := by decide +kernel
theorem dX3_foresee_43 : decode cX3_foresee 43 = .ok (.aload_n 0, 1) := by decide +kernel
theorem dX3_foresee_44 : decode cX3_foresee 44 = .ok (.getfield 23, 3) := by decide +kernel
theorem dX3_foresee_47 : decode cX3_foresee 47 = .ok (.aload_n 0, 1) := by decide +kernel
theorem dX3_foresee_48 : decode cX3_foresee 48 = .ok (.getfield 19, 3) := by decide +kernel
theorem dX3_foresee_51 : decode cX3_foresee 51 = .ok (.invokevirtual 158, 3) := by decide +kernel
theorem dX3_foresee_54 : decode cX3_foresee 54 = .ok (.aload_n 0, 1) := by decide +kernel
theorem dX3_foresee_55 : decode cX3_foresee 55 = .ok (.getfield 23, 3) := by decide +kernel
theorem dX3_foresee_58 : decode cX3_foresee 58 = .ok (.aload_n 0, 1) := by decide +kernel
theorem dX3_foresee_59 : decode cX3_foresee 59 = .ok (.getfield 10, 3) := by decide +kernel
theorem dX3_foresee_62 : decode cX3_foresee 62 = .ok (.iload_n 1, 1) := by decide +kernel
theorem dX3_foresee_63 : decode cX3_foresee 63 = .ok (.invokevirtual 142, 3) := by decide +kernel
theorem dX3_foresee_66 : decode cX3_foresee 66 = .ok (.aload_n 0, 1) := by decide +kernel
theorem dX3_foresee_67 : decode cX3_foresee 67 = .ok (.aload_n 0, 1) := by decide +kernel
theorem dX3_foresee_68 : decode cX3_foresee 68 = .ok (.getfield 23, 3) := by decide +kernel
theorem dX3_foresee_71 : decode cX3_foresee 71 = .ok (.iload_n 2, 1) := by decide +kernel
theorem dX3_foresee_72 : decode cX3_foresee 72 = .ok (.invokevirtual 124, 3) := by decide +kernel
theorem dX3_foresee_75 : decode cX3_foresee 75 = .ok (.ireturn, 1) := by decide +kernel
set_option maxRecDepth 20000 in
theorem ggX3_advise_X1_has : GoodIn wsX3_advise wsX1_has := goodIn_r _ [10, 11, 104, 105, 106] (by decide +kernel) (by decide +kernel)
set_option maxRecDepth 20000 in
theorem gX3_advise_X1_has : GoodIn wsX3_advise (wsV RX3 83 RX1 yX1_has wsX1_has) := goodIn_app (goodIn_of _ (by decide +kernel)) ggX3_advise_X1_has
set_option maxRecDepth 20000 in
theorem ggX3_advise_X3_placeWith : GoodIn wsX3_advise wsX3_placeWith := goodIn_r _ [16, 17, 18, 5, 19, 20, 21, 22, 23, 24, 25, 26, 27, 28, 29, 30, 31, 32, 33, 34, 35, 36, 37, 38, 39, 40, 41, 42, 43, 44, 45, 46, 47, 48, 49, 50, 51, 52, 53, 54, 55, 56, 57, 58, 59, 60, 61, 62, 63, 64, 65, 66, 67, 68, 69, 70, 71, 72, 73, 74, 75, 76, 77, 78, 79, 80, 81, 82, 83, 84, 85, 86, 87, 88, 89, 90, 91, 92, 93, 94, 95, 96, 97, 98, 99, 100, 101, 102, 103, 104, 105, 106, 107, 108, 109, 110, 111, 112, 113, 114, 115, 116, 117, 118, 119, 120, 121, 122] (by decide +kernel) (by decide +kernel)
set_option maxRecDepth 20000 in
theorem gX3_advise_X3_placeWith : GoodIn wsX3_advise (wsV RX3 163 RX3 yX3_placeWith wsX3_placeWith) := goodIn_app (goodIn_of _ (by decide +kernel)) ggX3_advise_X3_placeWith
theorem dX3_advise_0 : decode cX3_advise 0 = .ok (.aload_n 0, 1) := by decide +kernel
theorem dX3_advise_1 : decode cX3_advise 1 = .ok (.getfield 19, 3) := by decide +kernel
theorem dX3_advise_4 : decode cX3_advise 4 = .ok (.iload_n 1, 1) := by decide +kernel
theorem dX3_advise_5 : decode cX3_advise 5 = .ok (.invokevirtual 83, 3) := by decide +kernel
theorem dX3_advise_8 : decode cX3_advise 8 = .ok (.ifCond .ne 13, 3) := by decide +kernel
theorem dX3_advise_11 : decode cX3_advise 11 = .ok (.new 30, 3) := by decide +kernel
theorem dX3_advise_14 : decode cX3_advise 14 = .ok (.dup, 1) := by decide +kernel
theorem dX3_advise_15 : decode cX3_advise 15 = .ok (.ldc 86, 2) := by decide +kernel
theorem dX3_advise_17 : decode cX3_advise 17 = .ok (.invokespecial 34, 3) := by decide +kernel
theorem dX3_advise_20 : decode cX3_advise 20 = .ok (.athrow, 1) := by decide +kernel
theorem dX3_advise_21 : decode cX3_advise 21 = .ok (.iload_n 2, 1) := by decide +kernel
theorem dX3_advise_22 : decode cX3_advise 22 = .ok (.iconst 1, 1) := by decide +kernel
theorem dX3_advise_23 : decode cX3_advise 23 = .ok (.if_icmp .lt 9, 3) := by decide +kernel
theorem dX3_advise_26 : decode cX3_advise 26 = .ok (.iload_n 2, 1) := by decide +kernel
theorem dX3_advise_27 : decode cX3_advise 27 = .ok (.bipush 60, 2) := by decide +kernel
theorem dX3_advise_29 : decode cX3_advise 29 = .ok (.if_icmp .le 13, 3) := by decide +kernel
theorem dX3_advise_32 : decode cX3_advise 32 = .ok (.new 37, 3) := by decide +kernel
theorem dX3_advise_35 : decode cX3_advise 35 = .ok (.dup, 1) := by decide +kernel
theorem dX3_advise_36 : decode cX3_advise 36 = .ok (.ldc 161, 2) := by decide +kernel
theorem dX3_advise_38 : decode cX3_advise 38 = .ok (.invokespecial 41, 3) := by decide +kernel
theorem dX3_advise_41 : decode cX3_advise 41 = .ok (.athrow, 1) := by decide +kernel
theorem dX3_advise_42 : decode cX3_advise 42 = .ok (.iconst 0, 1) := by decide +kernel
theorem dX3_advise_43 : decode cX3_advise 43 = .ok (.istore_n 3, 1) := by decide +kernel
theorem dX3_advise_44 : decode cX3_advise 44 = .ok (.iconst (-1), 1) := by decide +kernel
theorem dX3_advise_45 : decode cX3_advise 45 = .ok (.istore 4, 2) := by decide +kernel
theorem dX3_advise_47 : decode cX3_advise 47 = .ok (.iconst 0, 1) := by decide +kernel
theorem dX3_advise_48 : decode cX3_advise 48 = .ok (.istore 5, 2) := by decide +kernel
theorem dX3_advise_50 : decode cX3_advise 50 = .ok (.iload 5, 2) := by decide +kernel
theorem dX3_advise_52 : decode cX3_advise 52 = .ok (.iconst 3, 1) := by decide +kernel
theorem dX3_advise_53 : decode cX3_advise 53 = .ok (.if_icmp .gt 58, 3) := by decide +kernel
theorem dX3_advise_56 : decode cX3_advise 56 = .ok (.iconst 0, 1) := by decide +kernel
theorem dX3_advise_57 : decode cX3_advise 57 = .ok (.istore 6, 2) := by decide +kernel
theorem dX3_advise_59 : decode cX3_advise 59 = .ok (.iload 6, 2) := by decide +kernel
theorem dX3_advise_61 : decode cX3_advise 61 = .ok (.iconst 3, 1) := by decide +kernel
theorem dX3_advise_62 : decode cX3_advise 62 = .ok (.if_icmp .gt 43, 3) := by decide +kernel
theorem dX3_advise_65 : decode cX3_advise 65 = .ok (.iload 5, 2) := by decide +kernel
theorem dX3_advise_67 : decode cX3_advise 67 = .ok (.bipush 10, 2) := by decide +kernel
theorem dX3_advise_69 : decode cX3_advise 69 = .ok (.imul, 1) := by decide +kernel
theorem dX3_advise_70 : decode cX3_advise 70 = .ok (.iload 6, 2) := by decide +kernel
theorem dX3_advise_72 : decode cX3_advise 72 = .ok (.iadd, 1) := by decide +kernel
theorem dX3_advise_73 : decode cX3_advise 73 = .ok (.istore 7, 2) := by decide +kernel
theorem dX3_advise_75 : decode cX3_advise 75 = .ok (.aload_n 0, 1) := by decide +kernel
theorem dX3_advise_76 : decode cX3_advise 76 = .ok (.iload_n 1, 1) := by decide +kernel
theorem dX3_advise_77 : decode cX3_advise 77 = .ok (.iload 7, 2) := by decide +kernel
theorem dX3_advise_79 : decode cX3_advise 79 = .ok (.iload_n 2, 1) := by decide +kernel
theorem dX3_advise_80 : decode cX3_advise 80 = .ok (.invokevirtual 163, 3) := by decide +kernel
theorem dX3_advise_83 : decode cX3_advise 83 = .ok (.istore 8, 2) := by decide +kernel
theorem dX3_advise_85 : decode cX3_advise 85 = .ok (.iload 8, 2) := by decide +kernel
theorem dX3_advise_87 : decode cX3_advise 87 = .ok (.iload 4, 2) := by decide +kernel
theorem dX3_advise_89 : decode cX3_advise 89 = .ok (.if_icmp .le 10, 3) := by decide +kernel
theorem dX3_advise_92 : decode cX3_advise 92 = .ok (.iload 8, 2) := by decide +kernel
theorem dX3_advise_94 : decode cX3_advise 94 = .ok (.istore 4, 2) := by decide +kernel
theorem dX3_advise_96 : decode cX3_advise 96 = .ok (.iload 7, 2) := by decide +kernel
theorem dX3_advise_98 : decode cX3_advise 98 = .ok (.istore_n 3, 1) := by decide +kernel
theorem dX3_advise_99 : decode cX3_advise 99 = .ok (.iinc 6 1, 3) := by decide +kernel
theorem dX3_advise_102 : decode cX3_advise 102 = .ok (.goto (-43), 3) := by decide +kernel
theorem dX3_advise_105 : decode cX3_advise 105 = .ok (.iinc 5 1, 3) := by decide +kernel
theorem dX3_advise_108 : decode cX3_advise 108 = .ok (.goto (-58), 3) := by decide +kernel
theorem dX3_advise_111 : decode cX3_advise 111 = .ok (.iload_n 3, 1) := by decide +kernel
theorem dX3_advise_112 : decode cX3_advise 112 = .ok (.ireturn, 1) := by decide +kernel
set_option maxRecDepth 20000 in
theorem ggX3_mean_X1_placesAdded : GoodIn wsX3_mean wsX1_placesAdded := goodIn_r _ [7, 8, 9, 10, 14, 15, 16, 17, 18, 19, 20, 21, 22, 23, 24, 25, 26, 27, 28] (by decide +kernel) (by decide +kernel)
set_option maxRecDepth 20000 in
theorem gX3_mean_X1_placesAdded : GoodIn wsX3_mean (wsV RX3 167 RX1 yX1_placesAdded wsX1_placesAdded) := goodIn_app (goodIn_of _ (by decide +kernel)) ggX3_mean_X1_placesAdded
theorem dX3_mean_0 : decode cX3_mean 0 = .ok (.aload_n 0, 1) := by decide +kernel
theorem dX3_mean_1 : decode cX3_mean 1 = .ok (.getfield 19, 3) := by decide +kernel
theorem dX3_mean_4 : decode cX3_mean 4 = .ok (.getfield 74, 3) := by decide +kernel
theorem dX3_mean_7 : decode cX3_mean 7 = .ok (.iconst 1, 1) := by decide +kernel
theorem dX3_mean_8 : decode cX3_mean 8 = .ok (.if_icmp .ge 5, 3) := by decide +kernel
theorem dX3_mean_11 : decode cX3_mean 11 = .ok (.dconst 0, 1) := by decide +kernel
theorem dX3_mean_12 : decode cX3_mean 12 = .ok (.dreturn, 1) := by decide +kernel
theorem dX3_mean_13 : decode cX3_mean 13 = .ok (.aload_n 0, 1) := by decide +kernel
theorem dX3_mean_14 : decode cX3_mean 14 = .ok (.getfield 19, 3) := by decide +kernel
theorem dX3_mean_17 : decode cX3_mean 17 = .ok (.invokevirtual 167, 3) := by decide +kernel
theorem dX3_mean_20 : decode cX3_mean 20 = .ok (.i2d, 1) := by decide +kernel
theorem dX3_mean_21 : decode cX3_mean 21 = .ok (.aload_n 0, 1) := by decide +kernel
theorem dX3_mean_22 : decode cX3_mean 22 = .ok (.getfield 19, 3) := by decide +kernel
theorem dX3_mean_25 : decode cX3_mean 25 = .ok (.getfield 74, 3) := by decide +kernel
theorem dX3_mean_28 : decode cX3_mean 28 = .ok (.i2d, 1) := by decide +kernel
theorem dX3_mean_29 : decode cX3_mean 29 = .ok (.ddiv, 1) := by decide +kernel
theorem dX3_mean_30 : decode cX3_mean 30 = .ok (.dreturn, 1) := by decide +kernel
set_option maxRecDepth 20000 in
theorem ggX3_digest_X3_countIn : GoodIn wsX3_digest wsX3_countIn := goodIn_r _ [15, 16, 9, 4, 6, 17, 18, 19, 20, 21, 22, 23, 24, 25, 26, 27, 28, 29, 30, 31, 32, 33, 34, 35, 36, 37, 38, 39, 40, 41, 42, 43, 44, 45, 46, 47, 48, 49, 82, 83, 84, 75, 76, 77, 78, 79, 80, 81, 85, 86, 87, 88, 89, 90, 91, 92, 93, 94, 95, 96] (by decide +kernel) (by decide +kernel)
set_option maxRecDepth 20000 in
theorem gX3_digest_X3_countIn : GoodIn wsX3_digest (wsV RX3 124 RX3 yX3_countIn wsX3_countIn) := goodIn_app (goodIn_of _ (by decide +kernel)) ggX3_digest_X3_countIn
set_option maxRecDepth 20000 in
theorem ggX3_digest_X3_digestWith : GoodIn wsX3_digest wsX3_digestWith := goodIn_r _ [53, 2, 54, 55, 3, 56, 57, 58, 27, 59, 60, 61, 62, 63, 49, 29, 64, 65, 66, 45, 46, 47, 48, 67, 68, 69, 20, 70, 22, 23, 71, 72, 73, 74, 85, 86, 87, 88, 89, 90, 91, 92, 93, 94, 95, 96, 75, 76, 77, 82, 83, 84] (by decide +kernel) (by decide +kernel)
set_option maxRecDepth 20000 in
theorem gX3_digest_X3_digestWith : GoodIn wsX3_digest (wsV RX3 180 RX3 yX3_digestWith wsX3_digestWith) := goodIn_app (goodIn_of _ (by decide +kernel)) ggX3_digest_X3_digestWith
theorem dX3_digest_0 : decode cX3_digest 0 = .ok (.ldc2_w 170, 3) := by decide +kernel
theorem dX3_digest_3 : decode cX3_digest 3 = .ok (.lstore_n 1, 1) := by decide +kernel
theorem dX3_digest_4 : decode cX3_digest 4 = .ok (.iconst 0, 1) := by decide +kernel
theorem dX3_digest_5 : decode cX3_digest 5 = .ok (.istore_n 3, 1) := by decide +kernel
theorem dX3_digest_6 : decode cX3_digest 6 = .ok (.iload_n 3, 1) := by decide +kernel
theorem dX3_digest_7 : decode cX3_digest 7 = .ok (.bipush 6, 2) := by decide +kernel
theorem dX3_digest_9 : decode cX3_digest 9 = .ok (.if_icmp .gt 26, 3) := by decide +kernel
theorem dX3_digest_12 : decode cX3_digest 12 = .ok (.lload_n 1, 1) := by decide +kernel
theorem dX3_digest_13 : decode cX3_digest 13 = .ok (.ldc2_w 172, 3) := by decide +kernel
theorem dX3_digest_16 : decode cX3_digest 16 = .ok (.lmul, 1) := by decide +kernel
theorem dX3_digest_17 : decode cX3_digest 17 = .ok (.aload_n 0, 1) := by decide +kernel
theorem dX3_digest_18 : decode cX3_digest 18 = .ok (.aload_n 0, 1) := by decide +kernel
theorem dX3_digest_19 : decode cX3_digest 19 = .ok (.getfield 19, 3) := by decide +kernel
theorem dX3_digest_22 : decode cX3_digest 22 = .ok (.iload_n 3, 1) := by decide +kernel
theorem dX3_digest_23 : decode cX3_digest 23 = .ok (.invokevirtual 124, 3) := by decide +kernel
theorem dX3_digest_26 : decode cX3_digest 26 = .ok (.i2l, 1) := by decide +kernel
theorem dX3_digest_27 : decode cX3_digest 27 = .ok (.ladd, 1) := by decide +kernel
theorem dX3_digest_28 : decode cX3_digest 28 = .ok (.lstore_n 1, 1) := by decide +kernel
theorem dX3_digest_29 : decode cX3_digest 29 = .ok (.iinc 3 1, 3) := by decide +kernel
theorem dX3_digest_32 : decode cX3_digest 32 = .ok (.goto (-26), 3) := by decide +kernel
theorem dX3_digest_35 : decode cX3_digest 35 = .ok (.iconst 0, 1) := by decide +kernel
theorem dX3_digest_36 : decode cX3_digest 36 = .ok (.istore_n 3, 1) := by decide +kernel
theorem dX3_digest_37 : decode cX3_digest 37 = .ok (.iload_n 3, 1) := by decide +kernel
theorem dX3_digest_38 : decode cX3_digest 38 = .ok (.iconst 5, 1) := by decide +kernel
theorem dX3_digest_39 : decode cX3_digest 39 = .ok (.if_icmp .ge 26, 3) := by decide +kernel
theorem dX3_digest_42 : decode cX3_digest 42 = .ok (.lload_n 1, 1) := by decide +kernel
theorem dX3_digest_43 : decode cX3_digest 43 = .ok (.ldc2_w 172, 3) := by decide +kernel
theorem dX3_digest_46 : decode cX3_digest 46 = .ok (.lmul, 1) := by decide +kernel
theorem dX3_digest_47 : decode cX3_digest 47 = .ok (.aload_n 0, 1) := by decide +kernel
theorem dX3_digest_48 : decode cX3_digest 48 = .ok (.getfield 10, 3) := by decide +kernel
theorem dX3_digest_51 : decode cX3_digest 51 = .ok (.getfield 42, 3) := by decide +kernel
theorem dX3_digest_54 : decode cX3_digest 54 = .ok (.iload_n 3, 1) := by decide +kernel
theorem dX3_digest_55 : decode cX3_digest 55 = .ok (.iaload, 1) := by decide +kernel
theorem dX3_digest_56 : decode cX3_digest 56 = .ok (.i2l, 1) := by decide +kernel
theorem dX3_digest_57 : decode cX3_digest 57 = .ok (.ladd, 1) := by decide +kernel
theorem dX3_digest_58 : decode cX3_digest 58 = .ok (.lstore_n 1, 1) := by decide +kernel
theorem dX3_digest_59 : decode cX3_digest 59 = .ok (.iinc 3 1, 3) := by decide +kernel
theorem dX3_digest_62 : decode cX3_digest 62 = .ok (.goto (-25), 3) := by decide +kernel
theorem dX3_digest_65 : decode cX3_digest 65 = .ok (.iconst 0, 1) := by decide +kernel
theorem dX3_digest_66 : decode cX3_digest 66 = .ok (.istore_n 3, 1) := by decide +kernel
theorem dX3_digest_67 : decode cX3_digest 67 = .ok (.iload_n 3, 1) := by decide +kernel
theorem dX3_digest_68 : decode cX3_digest 68 = .ok (.aload_n 0, 1) := by decide +kernel
theorem dX3_digest_69 : decode cX3_digest 69 = .ok (.getfield 10, 3) := by decide +kernel
theorem dX3_digest_72 : decode cX3_digest 72 = .ok (.getfield 50, 3) := by decide +kernel
theorem dX3_digest_75 : decode cX3_digest 75 = .ok (.if_icmp .ge 43, 3) := by decide +kernel
theorem dX3_digest_78 : decode cX3_digest 78 = .ok (.lload_n 1, 1) := by decide +kernel
theorem dX3_digest_79 : decode cX3_digest 79 = .ok (.ldc2_w 172, 3) := by decide +kernel
theorem dX3_digest_82 : decode cX3_digest 82 = .ok (.lmul, 1) := by decide +kernel
theorem dX3_digest_83 : decode cX3_digest 83 = .ok (.aload_n 0, 1) := by decide +kernel
theorem dX3_digest_84 : decode cX3_digest 84 = .ok (.getfield 10, 3) := by decide +kernel
theorem dX3_digest_87 : decode cX3_digest 87 = .ok (.getfield 174, 3) := by decide +kernel
theorem dX3_digest_90 : decode cX3_digest 90 = .ok (.iload_n 3, 1) := by decide +kernel
theorem dX3_digest_91 : decode cX3_digest 91 = .ok (.iaload, 1) := by decide +kernel
theorem dX3_digest_92 : decode cX3_digest 92 = .ok (.i2l, 1) := by decide +kernel
theorem dX3_digest_93 : decode cX3_digest 93 = .ok (.ladd, 1) := by decide +kernel
theorem dX3_digest_94 : decode cX3_digest 94 = .ok (.lstore_n 1, 1) := by decide +kernel
theorem dX3_digest_95 : decode cX3_digest 95 = .ok (.lload_n 1, 1) := by decide +kernel
theorem dX3_digest_96 : decode cX3_digest 96 = .ok (.ldc2_w 172, 3) := by decide +kernel
theorem dX3_digest_99 : decode cX3_digest 99 = .ok (.lmul, 1) := by decide +kernel
theorem dX3_digest_100 : decode cX3_digest 100 = .ok (.aload_n 0, 1) := by decide +kernel
theorem dX3_digest_101 : decode cX3_digest 101 = .ok (.getfield 10, 3) := by decide +kernel
theorem dX3_digest_104 : decode cX3_digest 104 = .ok (.getfield 177, 3) := by decide +kernel
theorem dX3_digest_107 : decode cX3_digest 107 = .ok (.iload_n 3, 1) := by decide +kernel
theorem dX3_digest_108 : decode cX3_digest 108 = .ok (.iaload, 1) := by decide +kernel
theorem dX3_digest_109 : decode cX3_digest 109 = .ok (.i2l, 1) := by decide +kernel
theorem dX3_digest_110 : decode cX3_digest 110 = .ok (.ladd, 1) := by decide +kernel
theorem dX3_digest_111 : decode cX3_digest 111 = .ok (.lstore_n 1, 1) := by decide +kernel
theorem dX3_digest_112 : decode cX3_digest 112 = .ok (.iinc 3 1, 3) := by decide +kernel
theorem dX3_digest_115 : decode cX3_digest 115 = .ok (.goto (-48), 3) := by decide +kernel
theorem dX3_digest_118 : decode cX3_digest 118 = .ok (.iconst 0, 1) := by decide +kernel
theorem dX3_digest_119 : decode cX3_digest 119 = .ok (.istore_n 3, 1) := by decide +kernel
theorem dX3_digest_120 : decode cX3_digest 120 = .ok (.iload_n 3, 1) := by decide +kernel
theorem dX3_digest_121 : decode cX3_digest 121 = .ok (.aload_n 0, 1) := by decide +kernel
theorem dX3_digest_122 : decode cX3_digest 122 = .ok (.getfield 19, 3) := by decide +kernel
theorem dX3_digest_125 : decode cX3_digest 125 = .ok (.getfield 74, 3) := by decide +kernel
theorem dX3_digest_128 : decode cX3_digest 128 = .ok (.if_icmp .ge 24, 3) := by decide +kernel
theorem dX3_digest_131 : decode cX3_digest 131 = .ok (.aload_n 0, 1) := by decide +kernel
theorem dX3_digest_132 : decode cX3_digest 132 = .ok (.lload_n 1, 1) := by decide +kernel
theorem dX3_digest_133 : decode cX3_digest 133 = .ok (.aload_n 0, 1) := by decide +kernel
theorem dX3_digest_134 : decode cX3_digest 134 = .ok (.getfield 19, 3) := by decide +kernel
theorem dX3_digest_137 : decode cX3_digest 137 = .ok (.getfield 96, 3) := by decide +kernel
theorem dX3_digest_140 : decode cX3_digest 140 = .ok (.iload_n 3, 1) := by decide +kernel
theorem dX3_digest_141 : decode cX3_digest 141 = .ok (.aaload, 1) := by decide +kernel
theorem dX3_digest_142 : decode cX3_digest 142 = .ok (.invokevirtual 180, 3) := by decide +kernel
theorem dX3_digest_145 : decode cX3_digest 145 = .ok (.lstore_n 1, 1) := by decide +kernel
theorem dX3_digest_146 : decode cX3_digest 146 = .ok (.iinc 3 1, 3) := by decide +kernel
theorem dX3_digest_149 : decode cX3_digest 149 = .ok (.goto (-29), 3) := by decide +kernel
theorem dX3_digest_152 : decode cX3_digest 152 = .ok (.lload_n 1, 1) := by decide +kernel
theorem dX3_digest_153 : decode cX3_digest 153 = .ok (.lreturn, 1) := by decide +kernel
set_option maxRecDepth 20000 in
theorem ggX3_digestWith_X0_fact : GoodIn wsX3_digestWith wsX0_fact := goodIn_r _ [9, 10, 11, 12, 13, 14, 15, 16, 17, 18, 19, 20, 8, 21, 22, 34, 35, 36, 37, 38, 39, 40, 41, 42, 43, 44, 45] (by decide +kernel) (by decide +kernel)
set_option maxRecDepth 20000 in
theorem gX3_digestWith_X0_fact : GoodIn wsX3_digestWith (wsV RX3 118 RX0 yX0_fact wsX0_fact) := goodIn_app (goodIn_of _ (by decide +kernel)) ggX3_digestWith_X0_fact
set_option maxRecDepth 20000 in
theorem ggX3_digestWith_X1_rankOf : GoodIn wsX3_digestWith wsX1_rankOf := goodIn_r _ [27, 28, 29, 30, 31, 32, 8, 33, 15, 10, 18, 19, 20, 21, 22, 14, 49, 50, 51, 34, 35, 36, 37, 38, 39, 40, 41, 42, 43, 44, 45] (by decide +kernel) (by decide +kernel)
set_option maxRecDepth 20000 in
theorem gX3_digestWith_X1_rankOf : GoodIn wsX3_digestWith (wsV RX3 133 RX1 yX1_rankOf wsX1_rankOf) := goodIn_app (goodIn_of _ (by decide +kernel)) ggX3_digestWith_X1_rankOf
theorem dX3_digestWith_0 : decode cX3_digestWith 0 = .ok (.lload_n 1, 1) := by decide +kernel
theorem dX3_digestWith_1 : decode cX3_digestWith 1 = .ok (.lstore 4, 2) := by decide +kernel
theorem dX3_digestWith_3 : decode cX3_digestWith 3 = .ok (.iconst 0, 1) := by decide +kernel
theorem dX3_digestWith_4 : decode cX3_digestWith 4 = .ok (.istore 6, 2) := by decide +kernel
theorem dX3_digestWith_6 : decode cX3_digestWith 6 = .ok (.iload 6, 2) := by decide +kernel
theorem dX3_digestWith_8 : decode cX3_digestWith 8 = .ok (.bipush 8, 2) := by decide +kernel
theorem dX3_digestWith_10 : decode cX3_digestWith 10 = .ok (.if_icmp .gt 25, 3) := by decide +kernel
theorem dX3_digestWith_13 : decode cX3_digestWith 13 = .ok (.lload 4, 2) := by decide +kernel
theorem dX3_digestWith_15 : decode cX3_digestWith 15 = .ok (.ldc2_w 172, 3) := by decide +kernel
theorem dX3_digestWith_18 : decode cX3_digestWith 18 = .ok (.lmul, 1) := by decide +kernel
theorem dX3_digestWith_19 : decode cX3_digestWith 19 = .ok (.aload_n 3, 1) := by decide +kernel
theorem dX3_digestWith_20 : decode cX3_digestWith 20 = .ok (.iload 6, 2) := by decide +kernel
theorem dX3_digestWith_22 : decode cX3_digestWith 22 = .ok (.invokevirtual 118, 3) := by decide +kernel
theorem dX3_digestWith_25 : decode cX3_digestWith 25 = .ok (.i2l, 1) := by decide +kernel
theorem dX3_digestWith_26 : decode cX3_digestWith 26 = .ok (.ladd, 1) := by decide +kernel
theorem dX3_digestWith_27 : decode cX3_digestWith 27 = .ok (.lstore 4, 2) := by decide +kernel
theorem dX3_digestWith_29 : decode cX3_digestWith 29 = .ok (.iinc 6 1, 3) := by decide +kernel
theorem dX3_digestWith_32 : decode cX3_digestWith 32 = .ok (.goto (-26), 3) := by decide +kernel
theorem dX3_digestWith_35 : decode cX3_digestWith 35 = .ok (.iconst 0, 1) := by decide +kernel
theorem dX3_digestWith_36 : decode cX3_digestWith 36 = .ok (.istore 6, 2) := by decide +kernel
theorem dX3_digestWith_38 : decode cX3_digestWith 38 = .ok (.iload 6, 2) := by decide +kernel
theorem dX3_digestWith_40 : decode cX3_digestWith 40 = .ok (.aload_n 3, 1) := by decide +kernel
theorem dX3_digestWith_41 : decode cX3_digestWith 41 = .ok (.getfield 100, 3) := by decide +kernel
theorem dX3_digestWith_44 : decode cX3_digestWith 44 = .ok (.if_icmp .ge 26, 3) := by decide +kernel
theorem dX3_digestWith_47 : decode cX3_digestWith 47 = .ok (.lload 4, 2) := by decide +kernel
theorem dX3_digestWith_49 : decode cX3_digestWith 49 = .ok (.ldc2_w 172, 3) := by decide +kernel
theorem dX3_digestWith_52 : decode cX3_digestWith 52 = .ok (.lmul, 1) := by decide +kernel
theorem dX3_digestWith_53 : decode cX3_digestWith 53 = .ok (.aload_n 3, 1) := by decide +kernel
theorem dX3_digestWith_54 : decode cX3_digestWith 54 = .ok (.getfield 184, 3) := by decide +kernel
theorem dX3_digestWith_57 : decode cX3_digestWith 57 = .ok (.iload 6, 2) := by decide +kernel
theorem dX3_digestWith_59 : decode cX3_digestWith 59 = .ok (.iaload, 1) := by decide +kernel
theorem dX3_digestWith_60 : decode cX3_digestWith 60 = .ok (.i2l, 1) := by decide +kernel
theorem dX3_digestWith_61 : decode cX3_digestWith 61 = .ok (.ladd, 1) := by decide +kernel
theorem dX3_digestWith_62 : decode cX3_digestWith 62 = .ok (.lstore 4, 2) := by decide +kernel
theorem dX3_digestWith_64 : decode cX3_digestWith 64 = .ok (.iinc 6 1, 3) := by decide +kernel
theorem dX3_digestWith_67 : decode cX3_digestWith 67 = .ok (.goto (-29), 3) := by decide +kernel
theorem dX3_digestWith_70 : decode cX3_digestWith 70 = .ok (.lload 4, 2) := by decide +kernel
theorem dX3_digestWith_72 : decode cX3_digestWith 72 = .ok (.ldc2_w 172, 3) := by decide +kernel
theorem dX3_digestWith_75 : decode cX3_digestWith 75 = .ok (.lmul, 1) := by decide +kernel
theorem dX3_digestWith_76 : decode cX3_digestWith 76 = .ok (.aload_n 0, 1) := by decide +kernel
theorem dX3_digestWith_77 : decode cX3_digestWith 77 = .ok (.getfield 19, 3) := by decide +kernel
theorem dX3_digestWith_80 : decode cX3_digestWith 80 = .ok (.aload_n 3, 1) := by decide +kernel
theorem dX3_digestWith_81 : decode cX3_digestWith 81 = .ok (.invokevirtual 133, 3) := by decide +kernel
theorem dX3_digestWith_84 : decode cX3_digestWith 84 = .ok (.i2l, 1) := by decide +kernel
theorem dX3_digestWith_85 : decode cX3_digestWith 85 = .ok (.ladd, 1) := by decide +kernel
theorem dX3_digestWith_86 : decode cX3_digestWith 86 = .ok (.lreturn, 1) := by decide +kernel
set_option maxRecDepth 20000 in
theorem ggX3_countIn_X1_boatsIn : GoodIn wsX3_countIn wsX1_boatsIn := goodIn_r _ [9, 10, 11, 12, 13, 14, 15, 16, 17, 38, 39, 40, 48, 49, 50, 51, 52, 53, 54, 55, 56, 57, 58, 59] (by decide +kernel) (by decide +kernel)
set_option maxRecDepth 20000 in
theorem gX3_countIn_X1_boatsIn : GoodIn wsX3_countIn (wsV RX3 139 RX1 yX1_boatsIn wsX1_boatsIn) := goodIn_app (goodIn_of _ (by decide +kernel)) ggX3_countIn_X1_boatsIn
set_option maxRecDepth 20000 in
theorem ggX3_countIn_X1_foulsAdded : GoodIn wsX3_countIn wsX1_foulsAdded := goodIn_r _ [21, 10, 11, 22, 38, 39, 40, 48, 49, 50, 51, 52, 53, 54, 55, 56, 57, 58, 59] (by decide +kernel) (by decide +kernel)
set_option maxRecDepth 20000 in
theorem gX3_countIn_X1_foulsAdded : GoodIn wsX3_countIn (wsV RX3 187 RX1 yX1_foulsAdded wsX1_foulsAdded) := goodIn_app (goodIn_of _ (by decide +kernel)) ggX3_countIn_X1_foulsAdded
set_option maxRecDepth 20000 in
theorem ggX3_countIn_X1_leader : GoodIn wsX3_countIn wsX1_leader := goodIn_r _ [26, 10, 11, 27, 12, 13, 14, 15, 16, 17, 38, 39, 40, 48, 49, 50, 51, 52, 53, 54, 55, 56, 57, 58, 59] (by decide +kernel) (by decide +kernel)
set_option maxRecDepth 20000 in
theorem gX3_countIn_X1_leader : GoodIn wsX3_countIn (wsV RX3 190 RX1 yX1_leader wsX1_leader) := goodIn_app (goodIn_of _ (by decide +kernel)) ggX3_countIn_X1_leader
set_option maxRecDepth 20000 in
theorem ggX3_countIn_X1_winner : GoodIn wsX3_countIn wsX1_winner := goodIn_r _ [31, 10, 11, 12, 13, 14, 15, 16, 17, 32, 33, 34, 35, 36, 37, 38, 39, 40, 48, 49, 50, 51, 52, 53, 54, 55, 56, 57, 58, 59] (by decide +kernel) (by decide +kernel)
set_option maxRecDepth 20000 in
theorem gX3_countIn_X1_winner : GoodIn wsX3_countIn (wsV RX3 193 RX1 yX1_winner wsX1_winner) := goodIn_app (goodIn_of _ (by decide +kernel)) ggX3_countIn_X1_winner
theorem dX3_countIn_0 : decode cX3_countIn 0 = .ok (.iload_n 2, 1) := by decide +kernel
theorem dX3_countIn_1 : decode cX3_countIn 1 = .ok (.tableswitch 72 0 5 #[39, 44, 49, 57, 62, 67], 39) := by decide +kernel
theorem dX3_countIn_40 : decode cX3_countIn 40 = .ok (.aload_n 1, 1) := by decide +kernel
theorem dX3_countIn_41 : decode cX3_countIn 41 = .ok (.getfield 150, 3) := by decide +kernel
theorem dX3_countIn_44 : decode cX3_countIn 44 = .ok (.ireturn, 1) := by decide +kernel
theorem dX3_countIn_45 : decode cX3_countIn 45 = .ok (.aload_n 1, 1) := by decide +kernel
theorem dX3_countIn_46 : decode cX3_countIn 46 = .ok (.getfield 74, 3) := by decide +kernel
theorem dX3_countIn_49 : decode cX3_countIn 49 = .ok (.ireturn, 1) := by decide +kernel
theorem dX3_countIn_50 : decode cX3_countIn 50 = .ok (.aload_n 0, 1) := by decide +kernel
theorem dX3_countIn_51 : decode cX3_countIn 51 = .ok (.getfield 10, 3) := by decide +kernel
theorem dX3_countIn_54 : decode cX3_countIn 54 = .ok (.getfield 50, 3) := by decide +kernel
theorem dX3_countIn_57 : decode cX3_countIn 57 = .ok (.ireturn, 1) := by decide +kernel
theorem dX3_countIn_58 : decode cX3_countIn 58 = .ok (.aload_n 1, 1) := by decide +kernel
theorem dX3_countIn_59 : decode cX3_countIn 59 = .ok (.invokevirtual 139, 3) := by decide +kernel
theorem dX3_countIn_62 : decode cX3_countIn 62 = .ok (.ireturn, 1) := by decide +kernel
theorem dX3_countIn_63 : decode cX3_countIn 63 = .ok (.aload_n 1, 1) := by decide +kernel
theorem dX3_countIn_64 : decode cX3_countIn 64 = .ok (.invokevirtual 187, 3) := by decide +kernel
theorem dX3_countIn_67 : decode cX3_countIn 67 = .ok (.ireturn, 1) := by decide +kernel
theorem dX3_countIn_68 : decode cX3_countIn 68 = .ok (.aload_n 1, 1) := by decide +kernel
theorem dX3_countIn_69 : decode cX3_countIn 69 = .ok (.invokevirtual 190, 3) := by decide +kernel
theorem dX3_countIn_72 : decode cX3_countIn 72 = .ok (.ireturn, 1) := by decide +kernel
theorem dX3_countIn_73 : decode cX3_countIn 73 = .ok (.aload_n 1, 1) := by decide +kernel
theorem dX3_countIn_74 : decode cX3_countIn 74 = .ok (.invokevirtual 193, 3) := by decide +kernel
theorem dX3_countIn_77 : decode cX3_countIn 77 = .ok (.ireturn, 1) := by decide +kernel
set_option maxRecDepth 20000 in
theorem ggX3_placeWith_X0_copyFrom : GoodIn wsX3_placeWith wsX0_copyFrom := goodIn_r _ [11, 12, 13, 14, 15, 16, 17, 18, 19, 20, 21, 22, 23, 24, 25, 26, 27, 92, 93, 94, 95, 96, 97, 98, 99, 100, 101, 102, 103] (by decide +kernel) (by decide +kernel)
set_option maxRecDepth 20000 in
theorem gX3_placeWith_X0_copyFrom : GoodIn wsX3_placeWith (wsV RX3 146 RX0 yX0_copyFrom wsX0_copyFrom) := goodIn_app (goodIn_of _ (by decide +kernel)) ggX3_placeWith_X0_copyFrom
set_option maxRecDepth 20000 in
theorem ggX3_placeWith_X0_takePattern : GoodIn wsX3_placeWith wsX0_takePattern := goodIn_r _ [31, 12, 17, 92, 93, 94, 95, 96, 97, 98, 99, 100, 101, 102, 103] (by decide +kernel) (by decide +kernel)
set_option maxRecDepth 20000 in
theorem gX3_placeWith_X0_takePattern : GoodIn wsX3_placeWith (wsV RX3 103 RX0 yX0_takePattern wsX0_takePattern) := goodIn_app (goodIn_of _ (by decide +kernel)) ggX3_placeWith_X0_takePattern
set_option maxRecDepth 20000 in
theorem ggX3_placeWith_X0_letTickGoBy : GoodIn wsX3_placeWith wsX0_letTickGoBy := goodIn_r _ [35, 24, 19, 25, 36, 37, 38, 10, 39, 17, 12, 40, 41, 42, 43, 44, 45, 46, 47, 21, 26, 22, 48, 49, 50, 51, 52, 53, 54, 55, 18, 56, 57, 58, 59, 20, 23, 60, 61, 62, 63, 64, 65, 66, 67, 68, 69, 70, 71, 72, 73, 74, 27, 75, 76, 77, 78, 79, 80, 81, 82, 83, 84, 85, 92, 93, 94, 95, 96, 97, 98, 99, 100, 101, 102, 103, 104, 105, 106, 107] (by decide +kernel) (by decide +kernel)
set_option maxRecDepth 20000 in
theorem gX3_placeWith_X0_letTickGoBy : GoodIn wsX3_placeWith (wsV RX3 153 RX0 yX0_letTickGoBy wsX0_letTickGoBy) := goodIn_app (goodIn_of _ (by decide +kernel)) ggX3_placeWith_X0_letTickGoBy
theorem dX3_placeWith_0 : decode cX3_placeWith 0 = .ok (.aload_n 0, 1) := by decide +kernel
theorem dX3_placeWith_1 : decode cX3_placeWith 1 = .ok (.getfield 23, 3) := by decide +kernel
theorem dX3_placeWith_4 : decode cX3_placeWith 4 = .ok (.getfield 96, 3) := by decide +kernel
theorem dX3_placeWith_7 : decode cX3_placeWith 7 = .ok (.iload_n 1, 1) := by decide +kernel
theorem dX3_placeWith_8 : decode cX3_placeWith 8 = .ok (.aaload, 1) := by decide +kernel
theorem dX3_placeWith_9 : decode cX3_placeWith 9 = .ok (.astore 4, 2) := by decide +kernel
theorem dX3_placeWith_11 : decode cX3_placeWith 11 = .ok (.aload 4, 2) := by decide +kernel
theorem dX3_placeWith_13 : decode cX3_placeWith 13 = .ok (.aload_n 0, 1) := by decide +kernel
theorem dX3_placeWith_14 : decode cX3_placeWith 14 = .ok (.getfield 19, 3) := by decide +kernel
theorem dX3_placeWith_17 : decode cX3_placeWith 17 = .ok (.getfield 96, 3) := by decide +kernel
theorem dX3_placeWith_20 : decode cX3_placeWith 20 = .ok (.iload_n 1, 1) := by decide +kernel
theorem dX3_placeWith_21 : decode cX3_placeWith 21 = .ok (.aaload, 1) := by decide +kernel
theorem dX3_placeWith_22 : decode cX3_placeWith 22 = .ok (.invokevirtual 146, 3) := by decide +kernel
theorem dX3_placeWith_25 : decode cX3_placeWith 25 = .ok (.aload 4, 2) := by decide +kernel
theorem dX3_placeWith_27 : decode cX3_placeWith 27 = .ok (.iconst 2, 1) := by decide +kernel
theorem dX3_placeWith_28 : decode cX3_placeWith 28 = .ok (.iload_n 2, 1) := by decide +kernel
theorem dX3_placeWith_29 : decode cX3_placeWith 29 = .ok (.invokevirtual 103, 3) := by decide +kernel
theorem dX3_placeWith_32 : decode cX3_placeWith 32 = .ok (.iconst 0, 1) := by decide +kernel
theorem dX3_placeWith_33 : decode cX3_placeWith 33 = .ok (.istore 5, 2) := by decide +kernel
theorem dX3_placeWith_35 : decode cX3_placeWith 35 = .ok (.iload 5, 2) := by decide +kernel
theorem dX3_placeWith_37 : decode cX3_placeWith 37 = .ok (.iload_n 3, 1) := by decide +kernel
theorem dX3_placeWith_38 : decode cX3_placeWith 38 = .ok (.if_icmp .ge 28, 3) := by decide +kernel
theorem dX3_placeWith_41 : decode cX3_placeWith 41 = .ok (.aload 4, 2) := by decide +kernel
theorem dX3_placeWith_43 : decode cX3_placeWith 43 = .ok (.aload_n 0, 1) := by decide +kernel
theorem dX3_placeWith_44 : decode cX3_placeWith 44 = .ok (.getfield 10, 3) := by decide +kernel
theorem dX3_placeWith_47 : decode cX3_placeWith 47 = .ok (.aload_n 0, 1) := by decide +kernel
theorem dX3_placeWith_48 : decode cX3_placeWith 48 = .ok (.getfield 19, 3) := by decide +kernel
theorem dX3_placeWith_51 : decode cX3_placeWith 51 = .ok (.getfield 150, 3) := by decide +kernel
theorem dX3_placeWith_54 : decode cX3_placeWith 54 = .ok (.iload 5, 2) := by decide +kernel
theorem dX3_placeWith_56 : decode cX3_placeWith 56 = .ok (.iadd, 1) := by decide +kernel
theorem dX3_placeWith_57 : decode cX3_placeWith 57 = .ok (.invokevirtual 153, 3) := by decide +kernel
theorem dX3_placeWith_60 : decode cX3_placeWith 60 = .ok (.iinc 5 1, 3) := by decide +kernel
theorem dX3_placeWith_63 : decode cX3_placeWith 63 = .ok (.goto (-28), 3) := by decide +kernel
theorem dX3_placeWith_66 : decode cX3_placeWith 66 = .ok (.aload 4, 2) := by decide +kernel
theorem dX3_placeWith_68 : decode cX3_placeWith 68 = .ok (.getfield 196, 3) := by decide +kernel
theorem dX3_placeWith_71 : decode cX3_placeWith 71 = .ok (.ireturn, 1) := by decide +kernel
theorem dX3_isPattern_0 : decode cX3_isPattern 0 = .ok (.iload_n 1, 1) := by decide +kernel
theorem dX3_isPattern_1 : decode cX3_isPattern 1 = .ok (.ifCond .ge 5, 3) := by decide +kernel
theorem dX3_isPattern_4 : decode cX3_isPattern 4 = .ok (.iconst 0, 1) := by decide +kernel
theorem dX3_isPattern_5 : decode cX3_isPattern 5 = .ok (.ireturn, 1) := by decide +kernel
theorem dX3_isPattern_6 : decode cX3_isPattern 6 = .ok (.iload_n 1, 1) := by decide +kernel
theorem dX3_isPattern_7 : decode cX3_isPattern 7 = .ok (.istore_n 2, 1) := by decide +kernel
theorem dX3_isPattern_8 : decode cX3_isPattern 8 = .ok (.iconst 0, 1) := by decide +kernel
theorem dX3_isPattern_9 : decode cX3_isPattern 9 = .ok (.istore_n 3, 1) := by decide +kernel
theorem dX3_isPattern_10 : decode cX3_isPattern 10 = .ok (.iload_n 3, 1) := by decide +kernel
theorem dX3_isPattern_11 : decode cX3_isPattern 11 = .ok (.iload_n 0, 1) := by decide +kernel
theorem dX3_isPattern_12 : decode cX3_isPattern 12 = .ok (.if_icmp .ge 24, 3) := by decide +kernel
theorem dX3_isPattern_15 : decode cX3_isPattern 15 = .ok (.iload_n 2, 1) := by decide +kernel
theorem dX3_isPattern_16 : decode cX3_isPattern 16 = .ok (.bipush 10, 2) := by decide +kernel
theorem dX3_isPattern_18 : decode cX3_isPattern 18 = .ok (.irem, 1) := by decide +kernel
theorem dX3_isPattern_19 : decode cX3_isPattern 19 = .ok (.iconst 3, 1) := by decide +kernel
theorem dX3_isPattern_20 : decode cX3_isPattern 20 = .ok (.if_icmp .le 5, 3) := by decide +kernel
theorem dX3_isPattern_23 : decode cX3_isPattern 23 = .ok (.iconst 0, 1) := by decide +kernel
theorem dX3_isPattern_24 : decode cX3_isPattern 24 = .ok (.ireturn, 1) := by decide +kernel
theorem dX3_isPattern_25 : decode cX3_isPattern 25 = .ok (.iload_n 2, 1) := by decide +kernel
theorem dX3_isPattern_26 : decode cX3_isPattern 26 = .ok (.bipush 10, 2) := by decide +kernel
theorem dX3_isPattern_28 : decode cX3_isPattern 28 = .ok (.idiv, 1) := by decide +kernel
theorem dX3_isPattern_29 : decode cX3_isPattern 29 = .ok (.istore_n 2, 1) := by decide +kernel
theorem dX3_isPattern_30 : decode cX3_isPattern 30 = .ok (.iinc 3 1, 3) := by decide +kernel
theorem dX3_isPattern_33 : decode cX3_isPattern 33 = .ok (.goto (-23), 3) := by decide +kernel
theorem dX3_isPattern_36 : decode cX3_isPattern 36 = .ok (.iload_n 2, 1) := by decide +kernel
theorem dX3_isPattern_37 : decode cX3_isPattern 37 = .ok (.ifCond .ne 7, 3) := by decide +kernel
theorem dX3_isPattern_40 : decode cX3_isPattern 40 = .ok (.iconst 1, 1) := by decide +kernel
theorem dX3_isPattern_41 : decode cX3_isPattern 41 = .ok (.goto 4, 3) := by decide +kernel
theorem dX3_isPattern_44 : decode cX3_isPattern 44 = .ok (.iconst 0, 1) := by decide +kernel
theorem dX3_isPattern_45 : decode cX3_isPattern 45 = .ok (.ireturn, 1) := by decide +kernel
end
section
set_option maxRecDepth 20000 in
theorem ggX4_init_J7_fill_53178 : GoodIn wsX4_init wsJ7_fill_53178 := goodIn_r _ [13] (by decide +kernel) (by decide +kernel)
set_option maxRecDepth 20000 in
theorem gX4_init_J7_fill_53178 : GoodIn wsX4_init (va_wsS RX4 24 yJ7_fill_53178 wsJ7_fill_53178) := goodIn_app (goodIn_of _ (by decide +kernel)) ggX4_init_J7_fill_53178
theorem dX4_init_0 : decode cX4_init 0 = .ok (.aload_n 0, 1) := by decide +kernel
theorem dX4_init_1 : decode cX4_init 1 = .ok (.invokespecial 1, 3) := by decide +kernel
theorem dX4_init_4 : decode cX4_init 4 = .ok (.aload_n 0, 1) := by decide +kernel
theorem dX4_init_5 : decode cX4_init 5 = .ok (.iconst 5, 1) := by decide +kernel
theorem dX4_init_6 : decode cX4_init 6 = .ok (.newarray .int, 2) := by decide +kernel
theorem dX4_init_8 : decode cX4_init 8 = .ok (.dup, 1) := by decide +kernel
theorem dX4_init_9 : decode cX4_init 9 = .ok (.iconst 0, 1) := by decide +kernel
theorem dX4_init_10 : decode cX4_init 10 = .ok (.iconst 1, 1) := by decide +kernel
theorem dX4_init_11 : decode cX4_init 11 = .ok (.iastore, 1) := by decide +kernel
theorem dX4_init_12 : decode cX4_init 12 = .ok (.dup, 1) := by decide +kernel
theorem dX4_init_13 : decode cX4_init 13 = .ok (.iconst 1, 1) := by decide +kernel
theorem dX4_init_14 : decode cX4_init 14 = .ok (.iconst 2, 1) := by decide +kernel
theorem dX4_init_15 : decode cX4_init 15 = .ok (.iastore, 1) := by decide +kernel
theorem dX4_init_16 : decode cX4_init 16 = .ok (.dup, 1) := by decide +kernel
theorem dX4_init_17 : decode cX4_init 17 = .ok (.iconst 2, 1) := by decide +kernel
theorem dX4_init_18 : decode cX4_init 18 = .ok (.iconst 3, 1) := by decide +kernel
theorem dX4_init_19 : decode cX4_init 19 = .ok (.iastore, 1) := by decide +kernel
theorem dX4_init_20 : decode cX4_init 20 = .ok (.dup, 1) := by decide +kernel
theorem dX4_init_21 : decode cX4_init 21 = .ok (.iconst 3, 1) := by decide +kernel
theorem dX4_init_22 : decode cX4_init 22 = .ok (.iconst 2, 1) := by decide +kernel
theorem dX4_init_23 : decode cX4_init 23 = .ok (.iastore, 1) := by decide +kernel
theorem dX4_init_24 : decode cX4_init 24 = .ok (.dup, 1) := by decide +kernel
theorem dX4_init_25 : decode cX4_init 25 = .ok (.iconst 4, 1) := by decide +kernel
theorem dX4_init_26 : decode cX4_init 26 = .ok (.iconst 1, 1) := by decide +kernel
theorem dX4_init_27 : decode cX4_init 27 = .ok (.iastore, 1) := by decide +kernel
theorem dX4_init_28 : decode cX4_init 28 = .ok (.putfield 7, 3) := by decide +kernel
theorem dX4_init_31 : decode cX4_init 31 = .ok (.aload_n 0, 1) := by decide +kernel
theorem dX4_init_32 : decode cX4_init 32 = .ok (.sipush 201, 3) := by decide +kernel
theorem dX4_init_35 : decode cX4_init 35 = .ok (.newarray .int, 2) := by decide +kernel
theorem dX4_init_37 : decode cX4_init 37 = .ok (.putfield 13, 3) := by decide +kernel
theorem dX4_init_40 : decode cX4_init 40 = .ok (.aload_n 0, 1) := by decide +kernel
theorem dX4_init_41 : decode cX4_init 41 = .ok (.iconst 0, 1) := by decide +kernel
theorem dX4_init_42 : decode cX4_init 42 = .ok (.anewarray 16, 3) := by decide +kernel
theorem dX4_init_45 : decode cX4_init 45 = .ok (.putfield 17, 3) := by decide +kernel
theorem dX4_init_48 : decode cX4_init 48 = .ok (.aload_n 0, 1) := by decide +kernel
theorem dX4_init_49 : decode cX4_init 49 = .ok (.iconst 0, 1) := by decide +kernel
theorem dX4_init_50 : decode cX4_init 50 = .ok (.anewarray 16, 3) := by decide +kernel
theorem dX4_init_53 : decode cX4_init 53 = .ok (.putfield 21, 3) := by decide +kernel
theorem dX4_init_56 : decode cX4_init 56 = .ok (.aload_n 0, 1) := by decide +kernel
theorem dX4_init_57 : decode cX4_init 57 = .ok (.getfield 13, 3) := by decide +kernel
theorem dX4_init_60 : decode cX4_init 60 = .ok (.iconst (-1), 1) := by decide +kernel
theorem dX4_init_61 : decode cX4_init 61 = .ok (.invokestatic 24, 3) := by decide +kernel
theorem dX4_init_64 : decode cX4_init 64 = .ok (.return_, 1) := by decide +kernel
theorem dX4_more_0 : decode cX4_more 0 = .ok (.aload_n 0, 1) := by decide +kernel
theorem dX4_more_1 : decode cX4_more 1 = .ok (.arraylength, 1) := by decide +kernel
theorem dX4_more_2 : decode cX4_more 2 = .ok (.iconst 1, 1) := by decide +kernel
theorem dX4_more_3 : decode cX4_more 3 = .ok (.iadd, 1) := by decide +kernel
theorem dX4_more_4 : decode cX4_more 4 = .ok (.anewarray 16, 3) := by decide +kernel
theorem dX4_more_7 : decode cX4_more 7 = .ok (.astore_n 2, 1) := by decide +kernel
theorem dX4_more_8 : decode cX4_more 8 = .ok (.iconst 0, 1) := by decide +kernel
theorem dX4_more_9 : decode cX4_more 9 = .ok (.istore_n 3, 1) := by decide +kernel
theorem dX4_more_10 : decode cX4_more 10 = .ok (.iload_n 3, 1) := by decide +kernel
theorem dX4_more_11 : decode cX4_more 11 = .ok (.aload_n 0, 1) := by decide +kernel
theorem dX4_more_12 : decode cX4_more 12 = .ok (.arraylength, 1) := by decide +kernel
theorem dX4_more_13 : decode cX4_more 13 = .ok (.if_icmp .ge 15, 3) := by decide +kernel
theorem dX4_more_16 : decode cX4_more 16 = .ok (.aload_n 2, 1) := by decide +kernel
theorem dX4_more_17 : decode cX4_more 17 = .ok (.iload_n 3, 1) := by decide +kernel
theorem dX4_more_18 : decode cX4_more 18 = .ok (.aload_n 0, 1) := by decide +kernel
theorem dX4_more_19 : decode cX4_more 19 = .ok (.iload_n 3, 1) := by decide +kernel
theorem dX4_more_20 : decode cX4_more 20 = .ok (.aaload, 1) := by decide +kernel
theorem dX4_more_21 : decode cX4_more 21 = .ok (.aastore, 1) := by decide +kernel
theorem dX4_more_22 : decode cX4_more 22 = .ok (.iinc 3 1, 3) := by decide +kernel
theorem dX4_more_25 : decode cX4_more 25 = .ok (.goto (-15), 3) := by decide +kernel
theorem dX4_more_28 : decode cX4_more 28 = .ok (.aload_n 2, 1) := by decide +kernel
theorem dX4_more_29 : decode cX4_more 29 = .ok (.aload_n 0, 1) := by decide +kernel
theorem dX4_more_30 : decode cX4_more 30 = .ok (.arraylength, 1) := by decide +kernel
theorem dX4_more_31 : decode cX4_more 31 = .ok (.aload_n 1, 1) := by decide +kernel
theorem dX4_more_32 : decode cX4_more 32 = .ok (.aastore, 1) := by decide +kernel
theorem dX4_more_33 : decode cX4_more 33 = .ok (.aload_n 2, 1) := by decide +kernel
theorem dX4_more_34 : decode cX4_more 34 = .ok (.areturn, 1) := by decide +kernel
theorem dX4_go_0 : decode cX4_go 0 = .ok (.aload_n 0, 1) := by decide +kernel
theorem dX4_go_1 : decode cX4_go 1 = .ok (.getfield 17, 3) := by decide +kernel
theorem dX4_go_4 : decode cX4_go 4 = .ok (.iload_n 1, 1) := by decide +kernel
theorem dX4_go_5 : decode cX4_go 5 = .ok (.aaload, 1) := by decide +kernel
theorem dX4_go_6 : decode cX4_go 6 = .ok (.astore_n 2, 1) := by decide +kernel
theorem dX4_go_7 : decode cX4_go 7 = .ok (.aload_n 0, 1) := by decide +kernel
theorem dX4_go_8 : decode cX4_go 8 = .ok (.getfield 21, 3) := by decide +kernel
theorem dX4_go_11 : decode cX4_go 11 = .ok (.iload_n 1, 1) := by decide +kernel
theorem dX4_go_12 : decode cX4_go 12 = .ok (.aaload, 1) := by decide +kernel
theorem dX4_go_13 : decode cX4_go 13 = .ok (.aload_n 0, 1) := by decide +kernel
theorem dX4_go_14 : decode cX4_go 14 = .ok (.getfield 30, 3) := by decide +kernel
theorem dX4_go_17 : decode cX4_go 17 = .ok (.aload_n 0, 1) := by decide +kernel
theorem dX4_go_18 : decode cX4_go 18 = .ok (.getfield 21, 3) := by decide +kernel
theorem dX4_go_21 : decode cX4_go 21 = .ok (.iload_n 1, 1) := by decide +kernel
theorem dX4_go_22 : decode cX4_go 22 = .ok (.aaload, 1) := by decide +kernel
theorem dX4_go_23 : decode cX4_go 23 = .ok (.arraylength, 1) := by decide +kernel
theorem dX4_go_24 : decode cX4_go 24 = .ok (.irem, 1) := by decide +kernel
theorem dX4_go_25 : decode cX4_go 25 = .ok (.iaload, 1) := by decide +kernel
theorem dX4_go_26 : decode cX4_go 26 = .ok (.istore_n 3, 1) := by decide +kernel
theorem dX4_go_27 : decode cX4_go 27 = .ok (.iload_n 3, 1) := by decide +kernel
theorem dX4_go_28 : decode cX4_go 28 = .ok (.iconst 3, 1) := by decide +kernel
theorem dX4_go_29 : decode cX4_go 29 = .ok (.if_icmp .ne 10, 3) := by decide +kernel
theorem dX4_go_32 : decode cX4_go 32 = .ok (.aload_n 2, 1) := by decide +kernel
theorem dX4_go_33 : decode cX4_go 33 = .ok (.bipush 8, 2) := by decide +kernel
theorem dX4_go_35 : decode cX4_go 35 = .ok (.iaload, 1) := by decide +kernel
theorem dX4_go_36 : decode cX4_go 36 = .ok (.goto 17, 3) := by decide +kernel
theorem dX4_go_39 : decode cX4_go 39 = .ok (.iload_n 3, 1) := by decide +kernel
theorem dX4_go_40 : decode cX4_go 40 = .ok (.ifCond .ne 7, 3) := by decide +kernel
theorem dX4_go_43 : decode cX4_go 43 = .ok (.iconst 0, 1) := by decide +kernel
theorem dX4_go_44 : decode cX4_go 44 = .ok (.goto 9, 3) := by decide +kernel
theorem dX4_go_47 : decode cX4_go 47 = .ok (.aload_n 2, 1) := by decide +kernel
theorem dX4_go_48 : decode cX4_go 48 = .ok (.bipush 8, 2) := by decide +kernel
theorem dX4_go_50 : decode cX4_go 50 = .ok (.iaload, 1) := by decide +kernel
theorem dX4_go_51 : decode cX4_go 51 = .ok (.iconst 2, 1) := by decide +kernel
theorem dX4_go_52 : decode cX4_go 52 = .ok (.idiv, 1) := by decide +kernel
theorem dX4_go_53 : decode cX4_go 53 = .ok (.istore 4, 2) := by decide +kernel
theorem dX4_go_55 : decode cX4_go 55 = .ok (.iload 4, 2) := by decide +kernel
theorem dX4_go_57 : decode cX4_go 57 = .ok (.aload_n 2, 1) := by decide +kernel
theorem dX4_go_58 : decode cX4_go 58 = .ok (.iconst 3, 1) := by decide +kernel
theorem dX4_go_59 : decode cX4_go 59 = .ok (.iaload, 1) := by decide +kernel
theorem dX4_go_60 : decode cX4_go 60 = .ok (.bipush 6, 2) := by decide +kernel
theorem dX4_go_62 : decode cX4_go 62 = .ok (.idiv, 1) := by decide +kernel
theorem dX4_go_63 : decode cX4_go 63 = .ok (.if_icmp .le 15, 3) := by decide +kernel
theorem dX4_go_66 : decode cX4_go 66 = .ok (.iload 4, 2) := by decide +kernel
theorem dX4_go_68 : decode cX4_go 68 = .ok (.aload_n 2, 1) := by decide +kernel
theorem dX4_go_69 : decode cX4_go 69 = .ok (.iconst 3, 1) := by decide +kernel
theorem dX4_go_70 : decode cX4_go 70 = .ok (.iaload, 1) := by decide +kernel
theorem dX4_go_71 : decode cX4_go 71 = .ok (.bipush 6, 2) := by decide +kernel
theorem dX4_go_73 : decode cX4_go 73 = .ok (.idiv, 1) := by decide +kernel
theorem dX4_go_74 : decode cX4_go 74 = .ok (.isub, 1) := by decide +kernel
theorem dX4_go_75 : decode cX4_go 75 = .ok (.goto 4, 3) := by decide +kernel
theorem dX4_go_78 : decode cX4_go 78 = .ok (.iconst 0, 1) := by decide +kernel
theorem dX4_go_79 : decode cX4_go 79 = .ok (.istore 4, 2) := by decide +kernel
theorem dX4_go_81 : decode cX4_go 81 = .ok (.iload_n 3, 1) := by decide +kernel
theorem dX4_go_82 : decode cX4_go 82 = .ok (.iconst 1, 1) := by decide +kernel
theorem dX4_go_83 : decode cX4_go 83 = .ok (.if_icmp .ne 10, 3) := by decide +kernel
theorem dX4_go_86 : decode cX4_go 86 = .ok (.aload_n 2, 1) := by decide +kernel
theorem dX4_go_87 : decode cX4_go 87 = .ok (.iconst 2, 1) := by decide +kernel
theorem dX4_go_88 : decode cX4_go 88 = .ok (.dup2, 1) := by decide +kernel
theorem dX4_go_89 : decode cX4_go 89 = .ok (.iaload, 1) := by decide +kernel
theorem dX4_go_90 : decode cX4_go 90 = .ok (.iconst 1, 1) := by decide +kernel
theorem dX4_go_91 : decode cX4_go 91 = .ok (.iadd, 1) := by decide +kernel
theorem dX4_go_92 : decode cX4_go 92 = .ok (.iastore, 1) := by decide +kernel
theorem dX4_go_93 : decode cX4_go 93 = .ok (.iload_n 3, 1) := by decide +kernel
theorem dX4_go_94 : decode cX4_go 94 = .ok (.iconst 2, 1) := by decide +kernel
theorem dX4_go_95 : decode cX4_go 95 = .ok (.if_icmp .ne 10, 3) := by decide +kernel
theorem dX4_go_98 : decode cX4_go 98 = .ok (.aload_n 2, 1) := by decide +kernel
theorem dX4_go_99 : decode cX4_go 99 = .ok (.iconst 2, 1) := by decide +kernel
theorem dX4_go_100 : decode cX4_go 100 = .ok (.dup2, 1) := by decide +kernel
theorem dX4_go_101 : decode cX4_go 101 = .ok (.iaload, 1) := by decide +kernel
theorem dX4_go_102 : decode cX4_go 102 = .ok (.iconst 1, 1) := by decide +kernel
theorem dX4_go_103 : decode cX4_go 103 = .ok (.isub, 1) := by decide +kernel
theorem dX4_go_104 : decode cX4_go 104 = .ok (.iastore, 1) := by decide +kernel
theorem dX4_go_105 : decode cX4_go 105 = .ok (.aload_n 2, 1) := by decide +kernel
theorem dX4_go_106 : decode cX4_go 106 = .ok (.iconst 2, 1) := by decide +kernel
theorem dX4_go_107 : decode cX4_go 107 = .ok (.iaload, 1) := by decide +kernel
theorem dX4_go_108 : decode cX4_go 108 = .ok (.iconst 4, 1) := by decide +kernel
theorem dX4_go_109 : decode cX4_go 109 = .ok (.if_icmp .gt 11, 3) := by decide +kernel
theorem dX4_go_112 : decode cX4_go 112 = .ok (.aload_n 2, 1) := by decide +kernel
theorem dX4_go_113 : decode cX4_go 113 = .ok (.iconst 2, 1) := by decide +kernel
theorem dX4_go_114 : decode cX4_go 114 = .ok (.iaload, 1) := by decide +kernel
theorem dX4_go_115 : decode cX4_go 115 = .ok (.bipush (-4), 2) := by decide +kernel
theorem dX4_go_117 : decode cX4_go 117 = .ok (.if_icmp .ge 18, 3) := by decide +kernel
theorem dX4_go_120 : decode cX4_go 120 = .ok (.aload_n 2, 1) := by decide +kernel
theorem dX4_go_121 : decode cX4_go 121 = .ok (.iconst 2, 1) := by decide +kernel
theorem dX4_go_122 : decode cX4_go 122 = .ok (.iconst 0, 1) := by decide +kernel
theorem dX4_go_123 : decode cX4_go 123 = .ok (.iastore, 1) := by decide +kernel
theorem dX4_go_124 : decode cX4_go 124 = .ok (.aload_n 2, 1) := by decide +kernel
theorem dX4_go_125 : decode cX4_go 125 = .ok (.bipush 6, 2) := by decide +kernel
theorem dX4_go_127 : decode cX4_go 127 = .ok (.dup2, 1) := by decide +kernel
theorem dX4_go_128 : decode cX4_go 128 = .ok (.iaload, 1) := by decide +kernel
theorem dX4_go_129 : decode cX4_go 129 = .ok (.iconst 1, 1) := by decide +kernel
theorem dX4_go_130 : decode cX4_go 130 = .ok (.iadd, 1) := by decide +kernel
theorem dX4_go_131 : decode cX4_go 131 = .ok (.iastore, 1) := by decide +kernel
theorem dX4_go_132 : decode cX4_go 132 = .ok (.iconst 0, 1) := by decide +kernel
theorem dX4_go_133 : decode cX4_go 133 = .ok (.istore 4, 2) := by decide +kernel
theorem dX4_go_135 : decode cX4_go 135 = .ok (.aload_n 2, 1) := by decide +kernel
theorem dX4_go_136 : decode cX4_go 136 = .ok (.iconst 2, 1) := by decide +kernel
theorem dX4_go_137 : decode cX4_go 137 = .ok (.iaload, 1) := by decide +kernel
theorem dX4_go_138 : decode cX4_go 138 = .ok (.iconst 1, 1) := by decide +kernel
theorem dX4_go_139 : decode cX4_go 139 = .ok (.if_icmp .le 27, 3) := by decide +kernel
theorem dX4_go_142 : decode cX4_go 142 = .ok (.aload_n 2, 1) := by decide +kernel
theorem dX4_go_143 : decode cX4_go 143 = .ok (.iconst 1, 1) := by decide +kernel
theorem dX4_go_144 : decode cX4_go 144 = .ok (.iaload, 1) := by decide +kernel
theorem dX4_go_145 : decode cX4_go 145 = .ok (.iconst 4, 1) := by decide +kernel
theorem dX4_go_146 : decode cX4_go 146 = .ok (.if_icmp .ne 13, 3) := by decide +kernel
theorem dX4_go_149 : decode cX4_go 149 = .ok (.aload_n 2, 1) := by decide +kernel
theorem dX4_go_150 : decode cX4_go 150 = .ok (.iconst 4, 1) := by decide +kernel
theorem dX4_go_151 : decode cX4_go 151 = .ok (.dup2, 1) := by decide +kernel
theorem dX4_go_152 : decode cX4_go 152 = .ok (.iaload, 1) := by decide +kernel
theorem dX4_go_153 : decode cX4_go 153 = .ok (.iconst 3, 1) := by decide +kernel
theorem dX4_go_154 : decode cX4_go 154 = .ok (.iadd, 1) := by decide +kernel
theorem dX4_go_155 : decode cX4_go 155 = .ok (.iastore, 1) := by decide +kernel
theorem dX4_go_156 : decode cX4_go 156 = .ok (.goto 10, 3) := by decide +kernel
theorem dX4_go_159 : decode cX4_go 159 = .ok (.aload_n 2, 1) := by decide +kernel
theorem dX4_go_160 : decode cX4_go 160 = .ok (.iconst 1, 1) := by decide +kernel
theorem dX4_go_161 : decode cX4_go 161 = .ok (.dup2, 1) := by decide +kernel
theorem dX4_go_162 : decode cX4_go 162 = .ok (.iaload, 1) := by decide +kernel
theorem dX4_go_163 : decode cX4_go 163 = .ok (.iconst 1, 1) := by decide +kernel
theorem dX4_go_164 : decode cX4_go 164 = .ok (.iadd, 1) := by decide +kernel
theorem dX4_go_165 : decode cX4_go 165 = .ok (.iastore, 1) := by decide +kernel
theorem dX4_go_166 : decode cX4_go 166 = .ok (.aload_n 2, 1) := by decide +kernel
theorem dX4_go_167 : decode cX4_go 167 = .ok (.iconst 2, 1) := by decide +kernel
theorem dX4_go_168 : decode cX4_go 168 = .ok (.iaload, 1) := by decide +kernel
theorem dX4_go_169 : decode cX4_go 169 = .ok (.iconst (-1), 1) := by decide +kernel
theorem dX4_go_170 : decode cX4_go 170 = .ok (.if_icmp .ge 26, 3) := by decide +kernel
theorem dX4_go_173 : decode cX4_go 173 = .ok (.aload_n 2, 1) := by decide +kernel
theorem dX4_go_174 : decode cX4_go 174 = .ok (.iconst 1, 1) := by decide +kernel
theorem dX4_go_175 : decode cX4_go 175 = .ok (.iaload, 1) := by decide +kernel
theorem dX4_go_176 : decode cX4_go 176 = .ok (.ifCond .ne 13, 3) := by decide +kernel
theorem dX4_go_179 : decode cX4_go 179 = .ok (.aload_n 2, 1) := by decide +kernel
theorem dX4_go_180 : decode cX4_go 180 = .ok (.iconst 4, 1) := by decide +kernel
theorem dX4_go_181 : decode cX4_go 181 = .ok (.dup2, 1) := by decide +kernel
theorem dX4_go_182 : decode cX4_go 182 = .ok (.iaload, 1) := by decide +kernel
theorem dX4_go_183 : decode cX4_go 183 = .ok (.iconst 3, 1) := by decide +kernel
theorem dX4_go_184 : decode cX4_go 184 = .ok (.iadd, 1) := by decide +kernel
theorem dX4_go_185 : decode cX4_go 185 = .ok (.iastore, 1) := by decide +kernel
theorem dX4_go_186 : decode cX4_go 186 = .ok (.goto 10, 3) := by decide +kernel
theorem dX4_go_189 : decode cX4_go 189 = .ok (.aload_n 2, 1) := by decide +kernel
theorem dX4_go_190 : decode cX4_go 190 = .ok (.iconst 1, 1) := by decide +kernel
theorem dX4_go_191 : decode cX4_go 191 = .ok (.dup2, 1) := by decide +kernel
theorem dX4_go_192 : decode cX4_go 192 = .ok (.iaload, 1) := by decide +kernel
theorem dX4_go_193 : decode cX4_go 193 = .ok (.iconst 1, 1) := by decide +kernel
theorem dX4_go_194 : decode cX4_go 194 = .ok (.isub, 1) := by decide +kernel
theorem dX4_go_195 : decode cX4_go 195 = .ok (.iastore, 1) := by decide +kernel
theorem dX4_go_196 : decode cX4_go 196 = .ok (.iload 4, 2) := by decide +kernel
theorem dX4_go_198 : decode cX4_go 198 = .ok (.iconst 4, 1) := by decide +kernel
theorem dX4_go_199 : decode cX4_go 199 = .ok (.aload_n 2, 1) := by decide +kernel
theorem dX4_go_200 : decode cX4_go 200 = .ok (.iconst 2, 1) := by decide +kernel
theorem dX4_go_201 : decode cX4_go 201 = .ok (.iaload, 1) := by decide +kernel
theorem dX4_go_202 : decode cX4_go 202 = .ok (.invokestatic 34, 3) := by decide +kernel
theorem dX4_go_205 : decode cX4_go 205 = .ok (.isub, 1) := by decide +kernel
theorem dX4_go_206 : decode cX4_go 206 = .ok (.imul, 1) := by decide +kernel
theorem dX4_go_207 : decode cX4_go 207 = .ok (.iconst 4, 1) := by decide +kernel
theorem dX4_go_208 : decode cX4_go 208 = .ok (.idiv, 1) := by decide +kernel
theorem dX4_go_209 : decode cX4_go 209 = .ok (.aload_n 0, 1) := by decide +kernel
theorem dX4_go_210 : decode cX4_go 210 = .ok (.getfield 7, 3) := by decide +kernel
theorem dX4_go_213 : decode cX4_go 213 = .ok (.aload_n 2, 1) := by decide +kernel
theorem dX4_go_214 : decode cX4_go 214 = .ok (.iconst 1, 1) := by decide +kernel
theorem dX4_go_215 : decode cX4_go 215 = .ok (.iaload, 1) := by decide +kernel
theorem dX4_go_216 : decode cX4_go 216 = .ok (.iaload, 1) := by decide +kernel
theorem dX4_go_217 : decode cX4_go 217 = .ok (.iadd, 1) := by decide +kernel
theorem dX4_go_218 : decode cX4_go 218 = .ok (.istore 5, 2) := by decide +kernel
theorem dX4_go_220 : decode cX4_go 220 = .ok (.iload 5, 2) := by decide +kernel
theorem dX4_go_222 : decode cX4_go 222 = .ok (.ifCond .le 81, 3) := by decide +kernel
theorem dX4_go_225 : decode cX4_go 225 = .ok (.aload_n 2, 1) := by decide +kernel
theorem dX4_go_226 : decode cX4_go 226 = .ok (.iconst 0, 1) := by decide +kernel
theorem dX4_go_227 : decode cX4_go 227 = .ok (.iaload, 1) := by decide +kernel
theorem dX4_go_228 : decode cX4_go 228 = .ok (.sipush 200, 3) := by decide +kernel
theorem dX4_go_231 : decode cX4_go 231 = .ok (.if_icmp .ge 72, 3) := by decide +kernel
theorem dX4_go_234 : decode cX4_go 234 = .ok (.aload_n 2, 1) := by decide +kernel
theorem dX4_go_235 : decode cX4_go 235 = .ok (.iconst 0, 1) := by decide +kernel
theorem dX4_go_236 : decode cX4_go 236 = .ok (.dup2, 1) := by decide +kernel
theorem dX4_go_237 : decode cX4_go 237 = .ok (.iaload, 1) := by decide +kernel
theorem dX4_go_238 : decode cX4_go 238 = .ok (.iconst 1, 1) := by decide +kernel
theorem dX4_go_239 : decode cX4_go 239 = .ok (.iadd, 1) := by decide +kernel
theorem dX4_go_240 : decode cX4_go 240 = .ok (.iastore, 1) := by decide +kernel
theorem dX4_go_241 : decode cX4_go 241 = .ok (.iinc 5 (-1), 3) := by decide +kernel
theorem dX4_go_244 : decode cX4_go 244 = .ok (.aload_n 0, 1) := by decide +kernel
theorem dX4_go_245 : decode cX4_go 245 = .ok (.getfield 13, 3) := by decide +kernel
theorem dX4_go_248 : decode cX4_go 248 = .ok (.aload_n 2, 1) := by decide +kernel
theorem dX4_go_249 : decode cX4_go 249 = .ok (.iconst 0, 1) := by decide +kernel
theorem dX4_go_250 : decode cX4_go 250 = .ok (.iaload, 1) := by decide +kernel
theorem dX4_go_251 : decode cX4_go 251 = .ok (.iaload, 1) := by decide +kernel
theorem dX4_go_252 : decode cX4_go 252 = .ok (.ifCond .lt (-32), 3) := by decide +kernel
theorem dX4_go_255 : decode cX4_go 255 = .ok (.aload_n 0, 1) := by decide +kernel
theorem dX4_go_256 : decode cX4_go 256 = .ok (.getfield 13, 3) := by decide +kernel
theorem dX4_go_259 : decode cX4_go 259 = .ok (.aload_n 2, 1) := by decide +kernel
theorem dX4_go_260 : decode cX4_go 260 = .ok (.iconst 0, 1) := by decide +kernel
theorem dX4_go_261 : decode cX4_go 261 = .ok (.iaload, 1) := by decide +kernel
theorem dX4_go_262 : decode cX4_go 262 = .ok (.iaload, 1) := by decide +kernel
theorem dX4_go_263 : decode cX4_go 263 = .ok (.aload_n 2, 1) := by decide +kernel
theorem dX4_go_264 : decode cX4_go 264 = .ok (.iconst 1, 1) := by decide +kernel
theorem dX4_go_265 : decode cX4_go 265 = .ok (.iaload, 1) := by decide +kernel
theorem dX4_go_266 : decode cX4_go 266 = .ok (.if_icmp .ne 6, 3) := by decide +kernel
theorem dX4_go_269 : decode cX4_go 269 = .ok (.goto (-49), 3) := by decide +kernel
theorem dX4_go_272 : decode cX4_go 272 = .ok (.iconst 0, 1) := by decide +kernel
theorem dX4_go_273 : decode cX4_go 273 = .ok (.istore 5, 2) := by decide +kernel
theorem dX4_go_275 : decode cX4_go 275 = .ok (.aload_n 2, 1) := by decide +kernel
theorem dX4_go_276 : decode cX4_go 276 = .ok (.iconst 2, 1) := by decide +kernel
theorem dX4_go_277 : decode cX4_go 277 = .ok (.iconst 0, 1) := by decide +kernel
theorem dX4_go_278 : decode cX4_go 278 = .ok (.iastore, 1) := by decide +kernel
theorem dX4_go_279 : decode cX4_go 279 = .ok (.aload_n 2, 1) := by decide +kernel
theorem dX4_go_280 : decode cX4_go 280 = .ok (.bipush 7, 2) := by decide +kernel
theorem dX4_go_282 : decode cX4_go 282 = .ok (.dup2, 1) := by decide +kernel
theorem dX4_go_283 : decode cX4_go 283 = .ok (.iaload, 1) := by decide +kernel
theorem dX4_go_284 : decode cX4_go 284 = .ok (.iconst 1, 1) := by decide +kernel
theorem dX4_go_285 : decode cX4_go 285 = .ok (.iadd, 1) := by decide +kernel
theorem dX4_go_286 : decode cX4_go 286 = .ok (.iastore, 1) := by decide +kernel
theorem dX4_go_287 : decode cX4_go 287 = .ok (.aload_n 2, 1) := by decide +kernel
theorem dX4_go_288 : decode cX4_go 288 = .ok (.iconst 3, 1) := by decide +kernel
theorem dX4_go_289 : decode cX4_go 289 = .ok (.bipush 30, 2) := by decide +kernel
theorem dX4_go_291 : decode cX4_go 291 = .ok (.aload_n 2, 1) := by decide +kernel
theorem dX4_go_292 : decode cX4_go 292 = .ok (.iconst 3, 1) := by decide +kernel
theorem dX4_go_293 : decode cX4_go 293 = .ok (.iaload, 1) := by decide +kernel
theorem dX4_go_294 : decode cX4_go 294 = .ok (.iconst 5, 1) := by decide +kernel
theorem dX4_go_295 : decode cX4_go 295 = .ok (.iadd, 1) := by decide +kernel
theorem dX4_go_296 : decode cX4_go 296 = .ok (.invokestatic 40, 3) := by decide +kernel
theorem dX4_go_299 : decode cX4_go 299 = .ok (.iastore, 1) := by decide +kernel
theorem dX4_go_300 : decode cX4_go 300 = .ok (.goto (-80), 3) := by decide +kernel
theorem dX4_go_303 : decode cX4_go 303 = .ok (.aload_n 0, 1) := by decide +kernel
theorem dX4_go_304 : decode cX4_go 304 = .ok (.getfield 30, 3) := by decide +kernel
theorem dX4_go_307 : decode cX4_go 307 = .ok (.iconst 4, 1) := by decide +kernel
theorem dX4_go_308 : decode cX4_go 308 = .ok (.irem, 1) := by decide +kernel
theorem dX4_go_309 : decode cX4_go 309 = .ok (.ifCond .ne 18, 3) := by decide +kernel
theorem dX4_go_312 : decode cX4_go 312 = .ok (.aload_n 2, 1) := by decide +kernel
theorem dX4_go_313 : decode cX4_go 313 = .ok (.iconst 3, 1) := by decide +kernel
theorem dX4_go_314 : decode cX4_go 314 = .ok (.iaload, 1) := by decide +kernel
theorem dX4_go_315 : decode cX4_go 315 = .ok (.bipush 30, 2) := by decide +kernel
theorem dX4_go_317 : decode cX4_go 317 = .ok (.if_icmp .ge 10, 3) := by decide +kernel
theorem dX4_go_320 : decode cX4_go 320 = .ok (.aload_n 2, 1) := by decide +kernel
theorem dX4_go_321 : decode cX4_go 321 = .ok (.iconst 3, 1) := by decide +kernel
theorem dX4_go_322 : decode cX4_go 322 = .ok (.dup2, 1) := by decide +kernel
theorem dX4_go_323 : decode cX4_go 323 = .ok (.iaload, 1) := by decide +kernel
theorem dX4_go_324 : decode cX4_go 324 = .ok (.iconst 1, 1) := by decide +kernel
theorem dX4_go_325 : decode cX4_go 325 = .ok (.iadd, 1) := by decide +kernel
theorem dX4_go_326 : decode cX4_go 326 = .ok (.iastore, 1) := by decide +kernel
theorem dX4_go_327 : decode cX4_go 327 = .ok (.aload_n 2, 1) := by decide +kernel
theorem dX4_go_328 : decode cX4_go 328 = .ok (.iconst 0, 1) := by decide +kernel
theorem dX4_go_329 : decode cX4_go 329 = .ok (.iaload, 1) := by decide +kernel
theorem dX4_go_330 : decode cX4_go 330 = .ok (.sipush 200, 3) := by decide +kernel
theorem dX4_go_333 : decode cX4_go 333 = .ok (.if_icmp .ne 10, 3) := by decide +kernel
theorem dX4_go_336 : decode cX4_go 336 = .ok (.aload_n 2, 1) := by decide +kernel
theorem dX4_go_337 : decode cX4_go 337 = .ok (.iconst 5, 1) := by decide +kernel
theorem dX4_go_338 : decode cX4_go 338 = .ok (.aload_n 0, 1) := by decide +kernel
theorem dX4_go_339 : decode cX4_go 339 = .ok (.getfield 30, 3) := by decide +kernel
theorem dX4_go_342 : decode cX4_go 342 = .ok (.iastore, 1) := by decide +kernel
theorem dX4_go_343 : decode cX4_go 343 = .ok (.return_, 1) := by decide +kernel
set_option maxRecDepth 20000 in
theorem ggX4_go__X4_go : GoodIn wsX4_go_ wsX4_go := goodIn_r _ [7, 1, 8, 2, 9, 10, 11, 12, 13, 14, 15, 16, 17, 18, 19, 20, 21, 22, 23] (by decide +kernel) (by decide +kernel)
set_option maxRecDepth 20000 in
theorem gX4_go__X4_go : GoodIn wsX4_go_ (wsV RX4 44 RX4 yX4_go wsX4_go) := goodIn_app (goodIn_of _ (by decide +kernel)) ggX4_go__X4_go
theorem dX4_go__0 : decode cX4_go_ 0 = .ok (.iconst 0, 1) := by decide +kernel
theorem dX4_go__1 : decode cX4_go_ 1 = .ok (.istore_n 1, 1) := by decide +kernel
theorem dX4_go__2 : decode cX4_go_ 2 = .ok (.iconst 0, 1) := by decide +kernel
theorem dX4_go__3 : decode cX4_go_ 3 = .ok (.istore_n 2, 1) := by decide +kernel
theorem dX4_go__4 : decode cX4_go_ 4 = .ok (.iload_n 2, 1) := by decide +kernel
theorem dX4_go__5 : decode cX4_go_ 5 = .ok (.aload_n 0, 1) := by decide +kernel
theorem dX4_go__6 : decode cX4_go_ 6 = .ok (.getfield 17, 3) := by decide +kernel
theorem dX4_go__9 : decode cX4_go_ 9 = .ok (.arraylength, 1) := by decide +kernel
theorem dX4_go__10 : decode cX4_go_ 10 = .ok (.if_icmp .ge 47, 3) := by decide +kernel
theorem dX4_go__13 : decode cX4_go_ 13 = .ok (.aload_n 0, 1) := by decide +kernel
theorem dX4_go__14 : decode cX4_go_ 14 = .ok (.getfield 17, 3) := by decide +kernel
theorem dX4_go__17 : decode cX4_go_ 17 = .ok (.iload_n 2, 1) := by decide +kernel
theorem dX4_go__18 : decode cX4_go_ 18 = .ok (.aaload, 1) := by decide +kernel
theorem dX4_go__19 : decode cX4_go_ 19 = .ok (.iconst 5, 1) := by decide +kernel
theorem dX4_go__20 : decode cX4_go_ 20 = .ok (.iaload, 1) := by decide +kernel
theorem dX4_go__21 : decode cX4_go_ 21 = .ok (.ifCond .lt 6, 3) := by decide +kernel
theorem dX4_go__24 : decode cX4_go_ 24 = .ok (.goto 27, 3) := by decide +kernel
theorem dX4_go__27 : decode cX4_go_ 27 = .ok (.aload_n 0, 1) := by decide +kernel
theorem dX4_go__28 : decode cX4_go_ 28 = .ok (.iload_n 2, 1) := by decide +kernel
theorem dX4_go__29 : decode cX4_go_ 29 = .ok (.invokevirtual 44, 3) := by decide +kernel
theorem dX4_go__32 : decode cX4_go_ 32 = .ok (.iload_n 1, 1) := by decide +kernel
theorem dX4_go__33 : decode cX4_go_ 33 = .ok (.aload_n 0, 1) := by decide +kernel
theorem dX4_go__34 : decode cX4_go_ 34 = .ok (.getfield 17, 3) := by decide +kernel
theorem dX4_go__37 : decode cX4_go_ 37 = .ok (.iload_n 2, 1) := by decide +kernel
theorem dX4_go__38 : decode cX4_go_ 38 = .ok (.aaload, 1) := by decide +kernel
theorem dX4_go__39 : decode cX4_go_ 39 = .ok (.iconst 5, 1) := by decide +kernel
theorem dX4_go__40 : decode cX4_go_ 40 = .ok (.iaload, 1) := by decide +kernel
theorem dX4_go__41 : decode cX4_go_ 41 = .ok (.ifCond .lt 7, 3) := by decide +kernel
theorem dX4_go__44 : decode cX4_go_ 44 = .ok (.iconst 1, 1) := by decide +kernel
theorem dX4_go__45 : decode cX4_go_ 45 = .ok (.goto 4, 3) := by decide +kernel
theorem dX4_go__48 : decode cX4_go_ 48 = .ok (.iconst 0, 1) := by decide +kernel
theorem dX4_go__49 : decode cX4_go_ 49 = .ok (.iadd, 1) := by decide +kernel
theorem dX4_go__50 : decode cX4_go_ 50 = .ok (.istore_n 1, 1) := by decide +kernel
theorem dX4_go__51 : decode cX4_go_ 51 = .ok (.iinc 2 1, 3) := by decide +kernel
theorem dX4_go__54 : decode cX4_go_ 54 = .ok (.goto (-50), 3) := by decide +kernel
theorem dX4_go__57 : decode cX4_go_ 57 = .ok (.aload_n 0, 1) := by decide +kernel
theorem dX4_go__58 : decode cX4_go_ 58 = .ok (.dup, 1) := by decide +kernel
theorem dX4_go__59 : decode cX4_go_ 59 = .ok (.getfield 30, 3) := by decide +kernel
theorem dX4_go__62 : decode cX4_go_ 62 = .ok (.iconst 1, 1) := by decide +kernel
theorem dX4_go__63 : decode cX4_go_ 63 = .ok (.iadd, 1) := by decide +kernel
theorem dX4_go__64 : decode cX4_go_ 64 = .ok (.putfield 30, 3) := by decide +kernel
theorem dX4_go__67 : decode cX4_go_ 67 = .ok (.iload_n 1, 1) := by decide +kernel
theorem dX4_go__68 : decode cX4_go_ 68 = .ok (.ireturn, 1) := by decide +kernel
theorem dX4_time_0 : decode cX4_time 0 = .ok (.aload_n 1, 1) := by decide +kernel
theorem dX4_time_1 : decode cX4_time 1 = .ok (.iconst 5, 1) := by decide +kernel
theorem dX4_time_2 : decode cX4_time 2 = .ok (.iaload, 1) := by decide +kernel
theorem dX4_time_3 : decode cX4_time 3 = .ok (.ifCond .ge 7, 3) := by decide +kernel
theorem dX4_time_6 : decode cX4_time 6 = .ok (.iconst (-1), 1) := by decide +kernel
theorem dX4_time_7 : decode cX4_time 7 = .ok (.goto 12, 3) := by decide +kernel
theorem dX4_time_10 : decode cX4_time 10 = .ok (.aload_n 1, 1) := by decide +kernel
theorem dX4_time_11 : decode cX4_time 11 = .ok (.iconst 5, 1) := by decide +kernel
theorem dX4_time_12 : decode cX4_time 12 = .ok (.iaload, 1) := by decide +kernel
theorem dX4_time_13 : decode cX4_time 13 = .ok (.iconst 1, 1) := by decide +kernel
theorem dX4_time_14 : decode cX4_time 14 = .ok (.iadd, 1) := by decide +kernel
theorem dX4_time_15 : decode cX4_time 15 = .ok (.aload_n 1, 1) := by decide +kernel
theorem dX4_time_16 : decode cX4_time 16 = .ok (.iconst 4, 1) := by decide +kernel
theorem dX4_time_17 : decode cX4_time 17 = .ok (.iaload, 1) := by decide +kernel
theorem dX4_time_18 : decode cX4_time 18 = .ok (.iadd, 1) := by decide +kernel
theorem dX4_time_19 : decode cX4_time 19 = .ok (.ireturn, 1) := by decide +kernel
set_option maxRecDepth 20000 in
theorem ggX4_counts_X4_time : GoodIn wsX4_counts wsX4_time := goodIn_r _ [9] (by decide +kernel) (by decide +kernel)
set_option maxRecDepth 20000 in
theorem gX4_counts_X4_time : GoodIn wsX4_counts (wsV RX4 48 RX4 yX4_time wsX4_time) := goodIn_app (goodIn_of _ (by decide +kernel)) ggX4_counts_X4_time
theorem dX4_counts_0 : decode cX4_counts 0 = .ok (.iconst 0, 1) := by decide +kernel
theorem dX4_counts_1 : decode cX4_counts 1 = .ok (.istore_n 1, 1) := by decide +kernel
theorem dX4_counts_2 : decode cX4_counts 2 = .ok (.iconst 0, 1) := by decide +kernel
theorem dX4_counts_3 : decode cX4_counts 3 = .ok (.istore_n 2, 1) := by decide +kernel
theorem dX4_counts_4 : decode cX4_counts 4 = .ok (.iconst (-1), 1) := by decide +kernel
theorem dX4_counts_5 : decode cX4_counts 5 = .ok (.istore_n 3, 1) := by decide +kernel
theorem dX4_counts_6 : decode cX4_counts 6 = .ok (.iconst (-1), 1) := by decide +kernel
theorem dX4_counts_7 : decode cX4_counts 7 = .ok (.istore 4, 2) := by decide +kernel
theorem dX4_counts_9 : decode cX4_counts 9 = .ok (.aload_n 0, 1) := by decide +kernel
theorem dX4_counts_10 : decode cX4_counts 10 = .ok (.getfield 17, 3) := by decide +kernel
theorem dX4_counts_13 : decode cX4_counts 13 = .ok (.arraylength, 1) := by decide +kernel
theorem dX4_counts_14 : decode cX4_counts 14 = .ok (.iconst 1, 1) := by decide +kernel
theorem dX4_counts_15 : decode cX4_counts 15 = .ok (.isub, 1) := by decide +kernel
theorem dX4_counts_16 : decode cX4_counts 16 = .ok (.istore 5, 2) := by decide +kernel
theorem dX4_counts_18 : decode cX4_counts 18 = .ok (.iload 5, 2) := by decide +kernel
theorem dX4_counts_20 : decode cX4_counts 20 = .ok (.ifCond .lt 89, 3) := by decide +kernel
theorem dX4_counts_23 : decode cX4_counts 23 = .ok (.aload_n 0, 1) := by decide +kernel
theorem dX4_counts_24 : decode cX4_counts 24 = .ok (.getfield 17, 3) := by decide +kernel
theorem dX4_counts_27 : decode cX4_counts 27 = .ok (.iload 5, 2) := by decide +kernel
theorem dX4_counts_29 : decode cX4_counts 29 = .ok (.aaload, 1) := by decide +kernel
theorem dX4_counts_30 : decode cX4_counts 30 = .ok (.astore 6, 2) := by decide +kernel
theorem dX4_counts_32 : decode cX4_counts 32 = .ok (.iload_n 2, 1) := by decide +kernel
theorem dX4_counts_33 : decode cX4_counts 33 = .ok (.aload 6, 2) := by decide +kernel
theorem dX4_counts_35 : decode cX4_counts 35 = .ok (.iconst 4, 1) := by decide +kernel
theorem dX4_counts_36 : decode cX4_counts 36 = .ok (.iaload, 1) := by decide +kernel
theorem dX4_counts_37 : decode cX4_counts 37 = .ok (.iadd, 1) := by decide +kernel
theorem dX4_counts_38 : decode cX4_counts 38 = .ok (.istore_n 2, 1) := by decide +kernel
theorem dX4_counts_39 : decode cX4_counts 39 = .ok (.aload 6, 2) := by decide +kernel
theorem dX4_counts_41 : decode cX4_counts 41 = .ok (.iconst 5, 1) := by decide +kernel
theorem dX4_counts_42 : decode cX4_counts 42 = .ok (.iaload, 1) := by decide +kernel
theorem dX4_counts_43 : decode cX4_counts 43 = .ok (.ifCond .ge 28, 3) := by decide +kernel
theorem dX4_counts_46 : decode cX4_counts 46 = .ok (.iload_n 3, 1) := by decide +kernel
theorem dX4_counts_47 : decode cX4_counts 47 = .ok (.ifCond .lt 18, 3) := by decide +kernel
theorem dX4_counts_50 : decode cX4_counts 50 = .ok (.aload 6, 2) := by decide +kernel
theorem dX4_counts_52 : decode cX4_counts 52 = .ok (.iconst 0, 1) := by decide +kernel
theorem dX4_counts_53 : decode cX4_counts 53 = .ok (.iaload, 1) := by decide +kernel
theorem dX4_counts_54 : decode cX4_counts 54 = .ok (.aload_n 0, 1) := by decide +kernel
theorem dX4_counts_55 : decode cX4_counts 55 = .ok (.getfield 17, 3) := by decide +kernel
theorem dX4_counts_58 : decode cX4_counts 58 = .ok (.iload_n 3, 1) := by decide +kernel
theorem dX4_counts_59 : decode cX4_counts 59 = .ok (.aaload, 1) := by decide +kernel
theorem dX4_counts_60 : decode cX4_counts 60 = .ok (.iconst 0, 1) := by decide +kernel
theorem dX4_counts_61 : decode cX4_counts 61 = .ok (.iaload, 1) := by decide +kernel
theorem dX4_counts_62 : decode cX4_counts 62 = .ok (.if_icmp .lt 41, 3) := by decide +kernel
theorem dX4_counts_65 : decode cX4_counts 65 = .ok (.iload 5, 2) := by decide +kernel
theorem dX4_counts_67 : decode cX4_counts 67 = .ok (.istore_n 3, 1) := by decide +kernel
theorem dX4_counts_68 : decode cX4_counts 68 = .ok (.goto 35, 3) := by decide +kernel
theorem dX4_counts_71 : decode cX4_counts 71 = .ok (.iinc 1 1, 3) := by decide +kernel
theorem dX4_counts_74 : decode cX4_counts 74 = .ok (.iload 4, 2) := by decide +kernel
theorem dX4_counts_76 : decode cX4_counts 76 = .ok (.ifCond .lt 23, 3) := by decide +kernel
theorem dX4_counts_79 : decode cX4_counts 79 = .ok (.aload_n 0, 1) := by decide +kernel
theorem dX4_counts_80 : decode cX4_counts 80 = .ok (.aload 6, 2) := by decide +kernel
theorem dX4_counts_82 : decode cX4_counts 82 = .ok (.invokevirtual 48, 3) := by decide +kernel
theorem dX4_counts_85 : decode cX4_counts 85 = .ok (.aload_n 0, 1) := by decide +kernel
theorem dX4_counts_86 : decode cX4_counts 86 = .ok (.aload_n 0, 1) := by decide +kernel
theorem dX4_counts_87 : decode cX4_counts 87 = .ok (.getfield 17, 3) := by decide +kernel
theorem dX4_counts_90 : decode cX4_counts 90 = .ok (.iload 4, 2) := by decide +kernel
theorem dX4_counts_92 : decode cX4_counts 92 = .ok (.aaload, 1) := by decide +kernel
theorem dX4_counts_93 : decode cX4_counts 93 = .ok (.invokevirtual 48, 3) := by decide +kernel
theorem dX4_counts_96 : decode cX4_counts 96 = .ok (.if_icmp .gt 7, 3) := by decide +kernel
theorem dX4_counts_99 : decode cX4_counts 99 = .ok (.iload 5, 2) := by decide +kernel
theorem dX4_counts_101 : decode cX4_counts 101 = .ok (.istore 4, 2) := by decide +kernel
theorem dX4_counts_103 : decode cX4_counts 103 = .ok (.iinc 5 (-1), 3) := by decide +kernel
theorem dX4_counts_106 : decode cX4_counts 106 = .ok (.goto (-88), 3) := by decide +kernel
theorem dX4_counts_109 : decode cX4_counts 109 = .ok (.bipush 7, 2) := by decide +kernel
theorem dX4_counts_111 : decode cX4_counts 111 = .ok (.newarray .int, 2) := by decide +kernel
theorem dX4_counts_113 : decode cX4_counts 113 = .ok (.dup, 1) := by decide +kernel
theorem dX4_counts_114 : decode cX4_counts 114 = .ok (.iconst 0, 1) := by decide +kernel
theorem dX4_counts_115 : decode cX4_counts 115 = .ok (.aload_n 0, 1) := by decide +kernel
theorem dX4_counts_116 : decode cX4_counts 116 = .ok (.getfield 30, 3) := by decide +kernel
theorem dX4_counts_119 : decode cX4_counts 119 = .ok (.iastore, 1) := by decide +kernel
theorem dX4_counts_120 : decode cX4_counts 120 = .ok (.dup, 1) := by decide +kernel
theorem dX4_counts_121 : decode cX4_counts 121 = .ok (.iconst 1, 1) := by decide +kernel
theorem dX4_counts_122 : decode cX4_counts 122 = .ok (.aload_n 0, 1) := by decide +kernel
theorem dX4_counts_123 : decode cX4_counts 123 = .ok (.getfield 17, 3) := by decide +kernel
theorem dX4_counts_126 : decode cX4_counts 126 = .ok (.arraylength, 1) := by decide +kernel
theorem dX4_counts_127 : decode cX4_counts 127 = .ok (.iastore, 1) := by decide +kernel
theorem dX4_counts_128 : decode cX4_counts 128 = .ok (.dup, 1) := by decide +kernel
theorem dX4_counts_129 : decode cX4_counts 129 = .ok (.iconst 2, 1) := by decide +kernel
theorem dX4_counts_130 : decode cX4_counts 130 = .ok (.aload_n 0, 1) := by decide +kernel
theorem dX4_counts_131 : decode cX4_counts 131 = .ok (.getfield 52, 3) := by decide +kernel
theorem dX4_counts_134 : decode cX4_counts 134 = .ok (.iastore, 1) := by decide +kernel
theorem dX4_counts_135 : decode cX4_counts 135 = .ok (.dup, 1) := by decide +kernel
theorem dX4_counts_136 : decode cX4_counts 136 = .ok (.iconst 3, 1) := by decide +kernel
theorem dX4_counts_137 : decode cX4_counts 137 = .ok (.iload_n 1, 1) := by decide +kernel
theorem dX4_counts_138 : decode cX4_counts 138 = .ok (.iastore, 1) := by decide +kernel
theorem dX4_counts_139 : decode cX4_counts 139 = .ok (.dup, 1) := by decide +kernel
theorem dX4_counts_140 : decode cX4_counts 140 = .ok (.iconst 4, 1) := by decide +kernel
theorem dX4_counts_141 : decode cX4_counts 141 = .ok (.iload_n 2, 1) := by decide +kernel
theorem dX4_counts_142 : decode cX4_counts 142 = .ok (.iastore, 1) := by decide +kernel
theorem dX4_counts_143 : decode cX4_counts 143 = .ok (.dup, 1) := by decide +kernel
theorem dX4_counts_144 : decode cX4_counts 144 = .ok (.iconst 5, 1) := by decide +kernel
theorem dX4_counts_145 : decode cX4_counts 145 = .ok (.iload_n 3, 1) := by decide +kernel
theorem dX4_counts_146 : decode cX4_counts 146 = .ok (.iastore, 1) := by decide +kernel
theorem dX4_counts_147 : decode cX4_counts 147 = .ok (.dup, 1) := by decide +kernel
theorem dX4_counts_148 : decode cX4_counts 148 = .ok (.bipush 6, 2) := by decide +kernel
theorem dX4_counts_150 : decode cX4_counts 150 = .ok (.iload 4, 2) := by decide +kernel
theorem dX4_counts_152 : decode cX4_counts 152 = .ok (.iastore, 1) := by decide +kernel
theorem dX4_counts_153 : decode cX4_counts 153 = .ok (.astore 5, 2) := by decide +kernel
theorem dX4_counts_155 : decode cX4_counts 155 = .ok (.aload 5, 2) := by decide +kernel
theorem dX4_counts_157 : decode cX4_counts 157 = .ok (.areturn, 1) := by decide +kernel
set_option maxRecDepth 20000 in
theorem ggX4_rank_X4_time : GoodIn wsX4_rank wsX4_time := goodIn_r _ [6] (by decide +kernel) (by decide +kernel)
set_option maxRecDepth 20000 in
theorem gX4_rank_X4_time : GoodIn wsX4_rank (wsV RX4 48 RX4 yX4_time wsX4_time) := goodIn_app (goodIn_of _ (by decide +kernel)) ggX4_rank_X4_time
theorem dX4_rank_0 : decode cX4_rank 0 = .ok (.iconst 1, 1) := by decide +kernel
theorem dX4_rank_1 : decode cX4_rank 1 = .ok (.istore_n 2, 1) := by decide +kernel
theorem dX4_rank_2 : decode cX4_rank 2 = .ok (.aload_n 0, 1) := by decide +kernel
theorem dX4_rank_3 : decode cX4_rank 3 = .ok (.getfield 17, 3) := by decide +kernel
theorem dX4_rank_6 : decode cX4_rank 6 = .ok (.astore_n 3, 1) := by decide +kernel
theorem dX4_rank_7 : decode cX4_rank 7 = .ok (.aload_n 3, 1) := by decide +kernel
theorem dX4_rank_8 : decode cX4_rank 8 = .ok (.arraylength, 1) := by decide +kernel
theorem dX4_rank_9 : decode cX4_rank 9 = .ok (.istore 4, 2) := by decide +kernel
theorem dX4_rank_11 : decode cX4_rank 11 = .ok (.iconst 0, 1) := by decide +kernel
theorem dX4_rank_12 : decode cX4_rank 12 = .ok (.istore 5, 2) := by decide +kernel
theorem dX4_rank_14 : decode cX4_rank 14 = .ok (.iload 5, 2) := by decide +kernel
theorem dX4_rank_16 : decode cX4_rank 16 = .ok (.iload 4, 2) := by decide +kernel
theorem dX4_rank_18 : decode cX4_rank 18 = .ok (.if_icmp .ge 78, 3) := by decide +kernel
theorem dX4_rank_21 : decode cX4_rank 21 = .ok (.aload_n 3, 1) := by decide +kernel
theorem dX4_rank_22 : decode cX4_rank 22 = .ok (.iload 5, 2) := by decide +kernel
theorem dX4_rank_24 : decode cX4_rank 24 = .ok (.aaload, 1) := by decide +kernel
theorem dX4_rank_25 : decode cX4_rank 25 = .ok (.astore 6, 2) := by decide +kernel
theorem dX4_rank_27 : decode cX4_rank 27 = .ok (.aload_n 1, 1) := by decide +kernel
theorem dX4_rank_28 : decode cX4_rank 28 = .ok (.iconst 5, 1) := by decide +kernel
theorem dX4_rank_29 : decode cX4_rank 29 = .ok (.iaload, 1) := by decide +kernel
theorem dX4_rank_30 : decode cX4_rank 30 = .ok (.ifCond .ge 31, 3) := by decide +kernel
theorem dX4_rank_33 : decode cX4_rank 33 = .ok (.iload_n 2, 1) := by decide +kernel
theorem dX4_rank_34 : decode cX4_rank 34 = .ok (.aload 6, 2) := by decide +kernel
theorem dX4_rank_36 : decode cX4_rank 36 = .ok (.iconst 5, 1) := by decide +kernel
theorem dX4_rank_37 : decode cX4_rank 37 = .ok (.iaload, 1) := by decide +kernel
theorem dX4_rank_38 : decode cX4_rank 38 = .ok (.ifCond .ge 13, 3) := by decide +kernel
theorem dX4_rank_41 : decode cX4_rank 41 = .ok (.aload 6, 2) := by decide +kernel
theorem dX4_rank_43 : decode cX4_rank 43 = .ok (.iconst 0, 1) := by decide +kernel
theorem dX4_rank_44 : decode cX4_rank 44 = .ok (.iaload, 1) := by decide +kernel
theorem dX4_rank_45 : decode cX4_rank 45 = .ok (.aload_n 1, 1) := by decide +kernel
theorem dX4_rank_46 : decode cX4_rank 46 = .ok (.iconst 0, 1) := by decide +kernel
theorem dX4_rank_47 : decode cX4_rank 47 = .ok (.iaload, 1) := by decide +kernel
theorem dX4_rank_48 : decode cX4_rank 48 = .ok (.if_icmp .le 7, 3) := by decide +kernel
theorem dX4_rank_51 : decode cX4_rank 51 = .ok (.iconst 1, 1) := by decide +kernel
theorem dX4_rank_52 : decode cX4_rank 52 = .ok (.goto 4, 3) := by decide +kernel
theorem dX4_rank_55 : decode cX4_rank 55 = .ok (.iconst 0, 1) := by decide +kernel
theorem dX4_rank_56 : decode cX4_rank 56 = .ok (.iadd, 1) := by decide +kernel
theorem dX4_rank_57 : decode cX4_rank 57 = .ok (.istore_n 2, 1) := by decide +kernel
theorem dX4_rank_58 : decode cX4_rank 58 = .ok (.goto 32, 3) := by decide +kernel
theorem dX4_rank_61 : decode cX4_rank 61 = .ok (.iload_n 2, 1) := by decide +kernel
theorem dX4_rank_62 : decode cX4_rank 62 = .ok (.aload 6, 2) := by decide +kernel
theorem dX4_rank_64 : decode cX4_rank 64 = .ok (.iconst 5, 1) := by decide +kernel
theorem dX4_rank_65 : decode cX4_rank 65 = .ok (.iaload, 1) := by decide +kernel
theorem dX4_rank_66 : decode cX4_rank 66 = .ok (.ifCond .lt 21, 3) := by decide +kernel
theorem dX4_rank_69 : decode cX4_rank 69 = .ok (.aload_n 0, 1) := by decide +kernel
theorem dX4_rank_70 : decode cX4_rank 70 = .ok (.aload 6, 2) := by decide +kernel
theorem dX4_rank_72 : decode cX4_rank 72 = .ok (.invokevirtual 48, 3) := by decide +kernel
theorem dX4_rank_75 : decode cX4_rank 75 = .ok (.aload_n 0, 1) := by decide +kernel
theorem dX4_rank_76 : decode cX4_rank 76 = .ok (.aload_n 1, 1) := by decide +kernel
theorem dX4_rank_77 : decode cX4_rank 77 = .ok (.invokevirtual 48, 3) := by decide +kernel
theorem dX4_rank_80 : decode cX4_rank 80 = .ok (.if_icmp .ge 7, 3) := by decide +kernel
theorem dX4_rank_83 : decode cX4_rank 83 = .ok (.iconst 1, 1) := by decide +kernel
theorem dX4_rank_84 : decode cX4_rank 84 = .ok (.goto 4, 3) := by decide +kernel
theorem dX4_rank_87 : decode cX4_rank 87 = .ok (.iconst 0, 1) := by decide +kernel
theorem dX4_rank_88 : decode cX4_rank 88 = .ok (.iadd, 1) := by decide +kernel
theorem dX4_rank_89 : decode cX4_rank 89 = .ok (.istore_n 2, 1) := by decide +kernel
theorem dX4_rank_90 : decode cX4_rank 90 = .ok (.iinc 5 1, 3) := by decide +kernel
theorem dX4_rank_93 : decode cX4_rank 93 = .ok (.goto (-79), 3) := by decide +kernel
theorem dX4_rank_96 : decode cX4_rank 96 = .ok (.iload_n 2, 1) := by decide +kernel
theorem dX4_rank_97 : decode cX4_rank 97 = .ok (.ireturn, 1) := by decide +kernel
set_option maxRecDepth 20000 in
theorem ggX4_isSame_X4_time : GoodIn wsX4_isSame wsX4_time := goodIn_r _ [7] (by decide +kernel) (by decide +kernel)
set_option maxRecDepth 20000 in
theorem gX4_isSame_X4_time : GoodIn wsX4_isSame (wsV RX4 48 RX4 yX4_time wsX4_time) := goodIn_app (goodIn_of _ (by decide +kernel)) ggX4_isSame_X4_time
set_option maxRecDepth 20000 in
theorem ggX4_isSame_X3_boat : GoodIn wsX4_isSame wsX3_boat := goodIn_ca (goodIn_r _ [12, 13, 14, 15, 16, 17, 18, 19, 20, 21, 22, 23, 24, 25, 26, 27, 28, 29, 30, 31, 32, 33, 34, 35, 36, 37, 38, 39, 40, 113, 114, 115, 116, 117, 118, 119, 120, 121, 122, 123, 124, 125, 126, 127, 128, 129, 130] (by decide +kernel) (by decide +kernel)) (goodIn_sub (fun _ h => List.mem_cons_of_mem _ (List.mem_append_right _ h)) (by decide +kernel))
set_option maxRecDepth 20000 in
theorem gX4_isSame_X3_boat : GoodIn wsX4_isSame (wsV RX4 66 RX3 yX3_boat wsX3_boat) := goodIn_app (goodIn_of _ (by decide +kernel)) ggX4_isSame_X3_boat
set_option maxRecDepth 20000 in
theorem ggX4_isSame_X3_rank : GoodIn wsX4_isSame wsX3_rank := goodIn_ca (goodIn_r _ [44, 13, 14, 15, 16, 17, 18, 19, 20, 21, 22, 45, 46, 47, 48, 49, 50, 51, 52, 26, 53, 33, 28, 36, 37, 38, 39, 40, 32, 113, 114, 115, 116, 117, 118, 119, 120, 121, 122, 123, 124, 125, 126, 127, 128, 129, 130] (by decide +kernel) (by decide +kernel)) (goodIn_sub (fun _ h => List.mem_cons_of_mem _ (List.mem_append_right _ h)) (by decide +kernel))
set_option maxRecDepth 20000 in
theorem gX4_isSame_X3_rank : GoodIn wsX4_isSame (wsV RX4 71 RX3 yX3_rank wsX3_rank) := goodIn_app (goodIn_of _ (by decide +kernel)) ggX4_isSame_X3_rank
set_option maxRecDepth 20000 in
theorem ggX4_isSame_X4_rank : GoodIn wsX4_isSame wsX4_rank := goodIn_r _ [57, 1, 3, 4, 5, 6, 7, 107, 108, 109, 110, 111, 112] (by decide +kernel) (by decide +kernel)
set_option maxRecDepth 20000 in
theorem gX4_isSame_X4_rank : GoodIn wsX4_isSame (wsV RX4 74 RX4 yX4_rank wsX4_rank) := goodIn_app (goodIn_of _ (by decide +kernel)) ggX4_isSame_X4_rank
set_option maxRecDepth 20000 in
theorem ggX4_isSame_X4_counts : GoodIn wsX4_isSame wsX4_counts := goodIn_r _ [61, 1, 2, 62, 63, 3, 4, 5, 6, 7, 107, 108, 109, 110, 111, 112] (by decide +kernel) (by decide +kernel)
set_option maxRecDepth 20000 in
theorem gX4_isSame_X4_counts : GoodIn wsX4_isSame (wsV RX4 76 RX4 yX4_counts wsX4_counts) := goodIn_app (goodIn_of _ (by decide +kernel)) ggX4_isSame_X4_counts
set_option maxRecDepth 20000 in
theorem ggX4_isSame_X3_count : GoodIn wsX4_isSame wsX3_count := goodIn_ca (goodIn_r _ [67, 13, 14, 15, 68, 69, 70, 11, 71, 72, 73, 74, 75, 76, 77, 78, 20, 79, 22, 49, 80, 81, 82, 26, 83, 33, 84, 85, 86, 87, 88, 89, 90, 91, 92, 93, 94, 95, 96, 97, 98, 37, 38, 39, 40, 32, 113, 114, 115, 116, 117, 118, 131, 132, 133, 134, 119, 120, 121, 122, 123, 124, 125, 126, 127, 128, 129, 130] (by decide +kernel) (by decide +kernel)) (goodIn_sub (fun _ h => List.mem_cons_of_mem _ (List.mem_append_right _ h)) (by decide +kernel))
set_option maxRecDepth 20000 in
theorem gX4_isSame_X3_count : GoodIn wsX4_isSame (wsV RX4 80 RX3 yX3_count wsX3_count) := goodIn_app (goodIn_of _ (by decide +kernel)) ggX4_isSame_X3_count
set_option maxRecDepth 20000 in
theorem ggX4_isSame_X3_mean : GoodIn wsX4_isSame wsX3_mean := goodIn_r _ [102, 15, 73, 103, 104, 105, 20, 106, 22, 49, 93, 113, 114, 115, 116, 117, 118, 119, 120, 121, 122, 123, 124, 125, 126, 127, 128, 129, 130] (by decide +kernel) (by decide +kernel)
set_option maxRecDepth 20000 in
theorem gX4_isSame_X3_mean : GoodIn wsX4_isSame (wsV RX4 83 RX3 yX3_mean wsX3_mean) := goodIn_app (goodIn_of _ (by decide +kernel)) ggX4_isSame_X3_mean
theorem dX4_isSame_0 : decode cX4_isSame 0 = .ok (.iconst 0, 1) := by decide +kernel
theorem dX4_isSame_1 : decode cX4_isSame 1 = .ok (.istore_n 2, 1) := by decide +kernel
theorem dX4_isSame_2 : decode cX4_isSame 2 = .ok (.iconst 0, 1) := by decide +kernel
theorem dX4_isSame_3 : decode cX4_isSame 3 = .ok (.istore_n 3, 1) := by decide +kernel
theorem dX4_isSame_4 : decode cX4_isSame 4 = .ok (.iload_n 3, 1) := by decide +kernel
theorem dX4_isSame_5 : decode cX4_isSame 5 = .ok (.aload_n 0, 1) := by decide +kernel
theorem dX4_isSame_6 : decode cX4_isSame 6 = .ok (.getfield 17, 3) := by decide +kernel
theorem dX4_isSame_9 : decode cX4_isSame 9 = .ok (.arraylength, 1) := by decide +kernel
theorem dX4_isSame_10 : decode cX4_isSame 10 = .ok (.if_icmp .ge 157, 3) := by decide +kernel
theorem dX4_isSame_13 : decode cX4_isSame 13 = .ok (.aload_n 0, 1) := by decide +kernel
theorem dX4_isSame_14 : decode cX4_isSame 14 = .ok (.getfield 17, 3) := by decide +kernel
theorem dX4_isSame_17 : decode cX4_isSame 17 = .ok (.iload_n 3, 1) := by decide +kernel
theorem dX4_isSame_18 : decode cX4_isSame 18 = .ok (.aaload, 1) := by decide +kernel
theorem dX4_isSame_19 : decode cX4_isSame 19 = .ok (.astore 4, 2) := by decide +kernel
theorem dX4_isSame_21 : decode cX4_isSame 21 = .ok (.bipush 9, 2) := by decide +kernel
theorem dX4_isSame_23 : decode cX4_isSame 23 = .ok (.newarray .int, 2) := by decide +kernel
theorem dX4_isSame_25 : decode cX4_isSame 25 = .ok (.dup, 1) := by decide +kernel
theorem dX4_isSame_26 : decode cX4_isSame 26 = .ok (.iconst 0, 1) := by decide +kernel
theorem dX4_isSame_27 : decode cX4_isSame 27 = .ok (.aload 4, 2) := by decide +kernel
theorem dX4_isSame_29 : decode cX4_isSame 29 = .ok (.iconst 0, 1) := by decide +kernel
theorem dX4_isSame_30 : decode cX4_isSame 30 = .ok (.iaload, 1) := by decide +kernel
theorem dX4_isSame_31 : decode cX4_isSame 31 = .ok (.iastore, 1) := by decide +kernel
theorem dX4_isSame_32 : decode cX4_isSame 32 = .ok (.dup, 1) := by decide +kernel
theorem dX4_isSame_33 : decode cX4_isSame 33 = .ok (.iconst 1, 1) := by decide +kernel
theorem dX4_isSame_34 : decode cX4_isSame 34 = .ok (.aload 4, 2) := by decide +kernel
theorem dX4_isSame_36 : decode cX4_isSame 36 = .ok (.iconst 1, 1) := by decide +kernel
theorem dX4_isSame_37 : decode cX4_isSame 37 = .ok (.iaload, 1) := by decide +kernel
theorem dX4_isSame_38 : decode cX4_isSame 38 = .ok (.iastore, 1) := by decide +kernel
theorem dX4_isSame_39 : decode cX4_isSame 39 = .ok (.dup, 1) := by decide +kernel
theorem dX4_isSame_40 : decode cX4_isSame 40 = .ok (.iconst 2, 1) := by decide +kernel
theorem dX4_isSame_41 : decode cX4_isSame 41 = .ok (.aload 4, 2) := by decide +kernel
theorem dX4_isSame_43 : decode cX4_isSame 43 = .ok (.iconst 2, 1) := by decide +kernel
theorem dX4_isSame_44 : decode cX4_isSame 44 = .ok (.iaload, 1) := by decide +kernel
theorem dX4_isSame_45 : decode cX4_isSame 45 = .ok (.iastore, 1) := by decide +kernel
theorem dX4_isSame_46 : decode cX4_isSame 46 = .ok (.dup, 1) := by decide +kernel
theorem dX4_isSame_47 : decode cX4_isSame 47 = .ok (.iconst 3, 1) := by decide +kernel
theorem dX4_isSame_48 : decode cX4_isSame 48 = .ok (.aload 4, 2) := by decide +kernel
theorem dX4_isSame_50 : decode cX4_isSame 50 = .ok (.iconst 3, 1) := by decide +kernel
theorem dX4_isSame_51 : decode cX4_isSame 51 = .ok (.iaload, 1) := by decide +kernel
theorem dX4_isSame_52 : decode cX4_isSame 52 = .ok (.iastore, 1) := by decide +kernel
theorem dX4_isSame_53 : decode cX4_isSame 53 = .ok (.dup, 1) := by decide +kernel
theorem dX4_isSame_54 : decode cX4_isSame 54 = .ok (.iconst 4, 1) := by decide +kernel
theorem dX4_isSame_55 : decode cX4_isSame 55 = .ok (.aload 4, 2) := by decide +kernel
theorem dX4_isSame_57 : decode cX4_isSame 57 = .ok (.iconst 4, 1) := by decide +kernel
theorem dX4_isSame_58 : decode cX4_isSame 58 = .ok (.iaload, 1) := by decide +kernel
theorem dX4_isSame_59 : decode cX4_isSame 59 = .ok (.iastore, 1) := by decide +kernel
theorem dX4_isSame_60 : decode cX4_isSame 60 = .ok (.dup, 1) := by decide +kernel
theorem dX4_isSame_61 : decode cX4_isSame 61 = .ok (.iconst 5, 1) := by decide +kernel
theorem dX4_isSame_62 : decode cX4_isSame 62 = .ok (.aload 4, 2) := by decide +kernel
theorem dX4_isSame_64 : decode cX4_isSame 64 = .ok (.iconst 5, 1) := by decide +kernel
theorem dX4_isSame_65 : decode cX4_isSame 65 = .ok (.iaload, 1) := by decide +kernel
theorem dX4_isSame_66 : decode cX4_isSame 66 = .ok (.ifCond .ge 7, 3) := by decide +kernel
theorem dX4_isSame_69 : decode cX4_isSame 69 = .ok (.iconst 0, 1) := by decide +kernel
theorem dX4_isSame_70 : decode cX4_isSame 70 = .ok (.goto 4, 3) := by decide +kernel
theorem dX4_isSame_73 : decode cX4_isSame 73 = .ok (.iconst 1, 1) := by decide +kernel
theorem dX4_isSame_74 : decode cX4_isSame 74 = .ok (.iastore, 1) := by decide +kernel
theorem dX4_isSame_75 : decode cX4_isSame 75 = .ok (.dup, 1) := by decide +kernel
theorem dX4_isSame_76 : decode cX4_isSame 76 = .ok (.bipush 6, 2) := by decide +kernel
theorem dX4_isSame_78 : decode cX4_isSame 78 = .ok (.aload_n 0, 1) := by decide +kernel
theorem dX4_isSame_79 : decode cX4_isSame 79 = .ok (.aload 4, 2) := by decide +kernel
theorem dX4_isSame_81 : decode cX4_isSame 81 = .ok (.invokevirtual 48, 3) := by decide +kernel
theorem dX4_isSame_84 : decode cX4_isSame 84 = .ok (.iastore, 1) := by decide +kernel
theorem dX4_isSame_85 : decode cX4_isSame 85 = .ok (.dup, 1) := by decide +kernel
theorem dX4_isSame_86 : decode cX4_isSame 86 = .ok (.bipush 7, 2) := by decide +kernel
theorem dX4_isSame_88 : decode cX4_isSame 88 = .ok (.aload 4, 2) := by decide +kernel
theorem dX4_isSame_90 : decode cX4_isSame 90 = .ok (.bipush 6, 2) := by decide +kernel
theorem dX4_isSame_92 : decode cX4_isSame 92 = .ok (.iaload, 1) := by decide +kernel
theorem dX4_isSame_93 : decode cX4_isSame 93 = .ok (.iastore, 1) := by decide +kernel
theorem dX4_isSame_94 : decode cX4_isSame 94 = .ok (.dup, 1) := by decide +kernel
theorem dX4_isSame_95 : decode cX4_isSame 95 = .ok (.bipush 8, 2) := by decide +kernel
theorem dX4_isSame_97 : decode cX4_isSame 97 = .ok (.aload 4, 2) := by decide +kernel
theorem dX4_isSame_99 : decode cX4_isSame 99 = .ok (.bipush 7, 2) := by decide +kernel
theorem dX4_isSame_101 : decode cX4_isSame 101 = .ok (.iaload, 1) := by decide +kernel
theorem dX4_isSame_102 : decode cX4_isSame 102 = .ok (.iastore, 1) := by decide +kernel
theorem dX4_isSame_103 : decode cX4_isSame 103 = .ok (.astore 5, 2) := by decide +kernel
theorem dX4_isSame_105 : decode cX4_isSame 105 = .ok (.iconst 0, 1) := by decide +kernel
theorem dX4_isSame_106 : decode cX4_isSame 106 = .ok (.istore 6, 2) := by decide +kernel
theorem dX4_isSame_108 : decode cX4_isSame 108 = .ok (.iload 6, 2) := by decide +kernel
theorem dX4_isSame_110 : decode cX4_isSame 110 = .ok (.bipush 9, 2) := by decide +kernel
theorem dX4_isSame_112 : decode cX4_isSame 112 = .ok (.if_icmp .ge 26, 3) := by decide +kernel
theorem dX4_isSame_115 : decode cX4_isSame 115 = .ok (.aload_n 1, 1) := by decide +kernel
theorem dX4_isSame_116 : decode cX4_isSame 116 = .ok (.iload_n 3, 1) := by decide +kernel
theorem dX4_isSame_117 : decode cX4_isSame 117 = .ok (.iload 6, 2) := by decide +kernel
theorem dX4_isSame_119 : decode cX4_isSame 119 = .ok (.invokevirtual 66, 3) := by decide +kernel
theorem dX4_isSame_122 : decode cX4_isSame 122 = .ok (.aload 5, 2) := by decide +kernel
theorem dX4_isSame_124 : decode cX4_isSame 124 = .ok (.iload 6, 2) := by decide +kernel
theorem dX4_isSame_126 : decode cX4_isSame 126 = .ok (.iaload, 1) := by decide +kernel
theorem dX4_isSame_127 : decode cX4_isSame 127 = .ok (.if_icmp .eq 5, 3) := by decide +kernel
theorem dX4_isSame_130 : decode cX4_isSame 130 = .ok (.iconst 0, 1) := by decide +kernel
theorem dX4_isSame_131 : decode cX4_isSame 131 = .ok (.ireturn, 1) := by decide +kernel
theorem dX4_isSame_132 : decode cX4_isSame 132 = .ok (.iinc 6 1, 3) := by decide +kernel
theorem dX4_isSame_135 : decode cX4_isSame 135 = .ok (.goto (-27), 3) := by decide +kernel
theorem dX4_isSame_138 : decode cX4_isSame 138 = .ok (.aload_n 1, 1) := by decide +kernel
theorem dX4_isSame_139 : decode cX4_isSame 139 = .ok (.iload_n 3, 1) := by decide +kernel
theorem dX4_isSame_140 : decode cX4_isSame 140 = .ok (.invokevirtual 71, 3) := by decide +kernel
theorem dX4_isSame_143 : decode cX4_isSame 143 = .ok (.aload_n 0, 1) := by decide +kernel
theorem dX4_isSame_144 : decode cX4_isSame 144 = .ok (.aload 4, 2) := by decide +kernel
theorem dX4_isSame_146 : decode cX4_isSame 146 = .ok (.invokevirtual 74, 3) := by decide +kernel
theorem dX4_isSame_149 : decode cX4_isSame 149 = .ok (.if_icmp .eq 5, 3) := by decide +kernel
theorem dX4_isSame_152 : decode cX4_isSame 152 = .ok (.iconst 0, 1) := by decide +kernel
theorem dX4_isSame_153 : decode cX4_isSame 153 = .ok (.ireturn, 1) := by decide +kernel
theorem dX4_isSame_154 : decode cX4_isSame 154 = .ok (.iload_n 2, 1) := by decide +kernel
theorem dX4_isSame_155 : decode cX4_isSame 155 = .ok (.aload 4, 2) := by decide +kernel
theorem dX4_isSame_157 : decode cX4_isSame 157 = .ok (.iconst 0, 1) := by decide +kernel
theorem dX4_isSame_158 : decode cX4_isSame 158 = .ok (.iaload, 1) := by decide +kernel
theorem dX4_isSame_159 : decode cX4_isSame 159 = .ok (.iadd, 1) := by decide +kernel
theorem dX4_isSame_160 : decode cX4_isSame 160 = .ok (.istore_n 2, 1) := by decide +kernel
theorem dX4_isSame_161 : decode cX4_isSame 161 = .ok (.iinc 3 1, 3) := by decide +kernel
theorem dX4_isSame_164 : decode cX4_isSame 164 = .ok (.goto (-160), 3) := by decide +kernel
theorem dX4_isSame_167 : decode cX4_isSame 167 = .ok (.aload_n 0, 1) := by decide +kernel
theorem dX4_isSame_168 : decode cX4_isSame 168 = .ok (.invokevirtual 76, 3) := by decide +kernel
theorem dX4_isSame_171 : decode cX4_isSame 171 = .ok (.astore_n 3, 1) := by decide +kernel
theorem dX4_isSame_172 : decode cX4_isSame 172 = .ok (.iconst 0, 1) := by decide +kernel
theorem dX4_isSame_173 : decode cX4_isSame 173 = .ok (.istore 4, 2) := by decide +kernel
theorem dX4_isSame_175 : decode cX4_isSame 175 = .ok (.iload 4, 2) := by decide +kernel
theorem dX4_isSame_177 : decode cX4_isSame 177 = .ok (.bipush 7, 2) := by decide +kernel
theorem dX4_isSame_179 : decode cX4_isSame 179 = .ok (.if_icmp .ge 24, 3) := by decide +kernel
theorem dX4_isSame_182 : decode cX4_isSame 182 = .ok (.aload_n 1, 1) := by decide +kernel
theorem dX4_isSame_183 : decode cX4_isSame 183 = .ok (.iload 4, 2) := by decide +kernel
theorem dX4_isSame_185 : decode cX4_isSame 185 = .ok (.invokevirtual 80, 3) := by decide +kernel
theorem dX4_isSame_188 : decode cX4_isSame 188 = .ok (.aload_n 3, 1) := by decide +kernel
theorem dX4_isSame_189 : decode cX4_isSame 189 = .ok (.iload 4, 2) := by decide +kernel
theorem dX4_isSame_191 : decode cX4_isSame 191 = .ok (.iaload, 1) := by decide +kernel
theorem dX4_isSame_192 : decode cX4_isSame 192 = .ok (.if_icmp .eq 5, 3) := by decide +kernel
theorem dX4_isSame_195 : decode cX4_isSame 195 = .ok (.iconst 0, 1) := by decide +kernel
theorem dX4_isSame_196 : decode cX4_isSame 196 = .ok (.ireturn, 1) := by decide +kernel
theorem dX4_isSame_197 : decode cX4_isSame 197 = .ok (.iinc 4 1, 3) := by decide +kernel
theorem dX4_isSame_200 : decode cX4_isSame 200 = .ok (.goto (-25), 3) := by decide +kernel
theorem dX4_isSame_203 : decode cX4_isSame 203 = .ok (.aload_n 1, 1) := by decide +kernel
theorem dX4_isSame_204 : decode cX4_isSame 204 = .ok (.invokevirtual 83, 3) := by decide +kernel
theorem dX4_isSame_207 : decode cX4_isSame 207 = .ok (.aload_n 0, 1) := by decide +kernel
theorem dX4_isSame_208 : decode cX4_isSame 208 = .ok (.getfield 17, 3) := by decide +kernel
theorem dX4_isSame_211 : decode cX4_isSame 211 = .ok (.arraylength, 1) := by decide +kernel
theorem dX4_isSame_212 : decode cX4_isSame 212 = .ok (.ifCond .ne 7, 3) := by decide +kernel
theorem dX4_isSame_215 : decode cX4_isSame 215 = .ok (.dconst 0, 1) := by decide +kernel
theorem dX4_isSame_216 : decode cX4_isSame 216 = .ok (.goto 12, 3) := by decide +kernel
theorem dX4_isSame_219 : decode cX4_isSame 219 = .ok (.iload_n 2, 1) := by decide +kernel
theorem dX4_isSame_220 : decode cX4_isSame 220 = .ok (.i2d, 1) := by decide +kernel
theorem dX4_isSame_221 : decode cX4_isSame 221 = .ok (.aload_n 0, 1) := by decide +kernel
theorem dX4_isSame_222 : decode cX4_isSame 222 = .ok (.getfield 17, 3) := by decide +kernel
theorem dX4_isSame_225 : decode cX4_isSame 225 = .ok (.arraylength, 1) := by decide +kernel
theorem dX4_isSame_226 : decode cX4_isSame 226 = .ok (.i2d, 1) := by decide +kernel
theorem dX4_isSame_227 : decode cX4_isSame 227 = .ok (.ddiv, 1) := by decide +kernel
theorem dX4_isSame_228 : decode cX4_isSame 228 = .ok (.dcmp .l, 1) := by decide +kernel
theorem dX4_isSame_229 : decode cX4_isSame 229 = .ok (.ifCond .ne 7, 3) := by decide +kernel
theorem dX4_isSame_232 : decode cX4_isSame 232 = .ok (.iconst 1, 1) := by decide +kernel
theorem dX4_isSame_233 : decode cX4_isSame 233 = .ok (.goto 4, 3) := by decide +kernel
theorem dX4_isSame_236 : decode cX4_isSame 236 = .ok (.iconst 0, 1) := by decide +kernel
theorem dX4_isSame_237 : decode cX4_isSame 237 = .ok (.ireturn, 1) := by decide +kernel
end
section
theorem dJ9_floorMod_7cf53_0 : decode cJ9_floorMod_7cf53 0 = .ok (.iload_n 0, 1) := by decide +kernel
theorem dJ9_floorMod_7cf53_1 : decode cJ9_floorMod_7cf53 1 = .ok (.iload_n 1, 1) := by decide +kernel
theorem dJ9_floorMod_7cf53_2 : decode cJ9_floorMod_7cf53 2 = .ok (.irem, 1) := by decide +kernel
theorem dJ9_floorMod_7cf53_3 : decode cJ9_floorMod_7cf53 3 = .ok (.istore_n 2, 1) := by decide +kernel
theorem dJ9_floorMod_7cf53_4 : decode cJ9_floorMod_7cf53 4 = .ok (.iload_n 0, 1) := by decide +kernel
theorem dJ9_floorMod_7cf53_5 : decode cJ9_floorMod_7cf53 5 = .ok (.iload_n 1, 1) := by decide +kernel
theorem dJ9_floorMod_7cf53_6 : decode cJ9_floorMod_7cf53 6 = .ok (.ixor, 1) := by decide +kernel
theorem dJ9_floorMod_7cf53_7 : decode cJ9_floorMod_7cf53 7 = .ok (.ifCond .ge 11, 3) := by decide +kernel
theorem dJ9_floorMod_7cf53_10 : decode cJ9_floorMod_7cf53 10 = .ok (.iload_n 2, 1) := by decide +kernel
theorem dJ9_floorMod_7cf53_11 : decode cJ9_floorMod_7cf53 11 = .ok (.ifCond .eq 7, 3) := by decide +kernel
theorem dJ9_floorMod_7cf53_14 : decode cJ9_floorMod_7cf53 14 = .ok (.iload_n 2, 1) := by decide +kernel
theorem dJ9_floorMod_7cf53_15 : decode cJ9_floorMod_7cf53 15 = .ok (.iload_n 1, 1) := by decide +kernel
theorem dJ9_floorMod_7cf53_16 : decode cJ9_floorMod_7cf53 16 = .ok (.iadd, 1) := by decide +kernel
theorem dJ9_floorMod_7cf53_17 : decode cJ9_floorMod_7cf53 17 = .ok (.ireturn, 1) := by decide +kernel
theorem dJ9_floorMod_7cf53_18 : decode cJ9_floorMod_7cf53 18 = .ok (.iload_n 2, 1) := by decide +kernel
theorem dJ9_floorMod_7cf53_19 : decode cJ9_floorMod_7cf53 19 = .ok (.ireturn, 1) := by decide +kernel
theorem dJ9_abs_0f7a4_0 : decode cJ9_abs_0f7a4 0 = .ok (.iload_n 0, 1) := by decide +kernel
theorem dJ9_abs_0f7a4_1 : decode cJ9_abs_0f7a4 1 = .ok (.ifCond .ge 8, 3) := by decide +kernel
theorem dJ9_abs_0f7a4_4 : decode cJ9_abs_0f7a4 4 = .ok (.iload_n 0, 1) := by decide +kernel
theorem dJ9_abs_0f7a4_5 : decode cJ9_abs_0f7a4 5 = .ok (.ineg, 1) := by decide +kernel
theorem dJ9_abs_0f7a4_6 : decode cJ9_abs_0f7a4 6 = .ok (.goto 4, 3) := by decide +kernel
theorem dJ9_abs_0f7a4_9 : decode cJ9_abs_0f7a4 9 = .ok (.iload_n 0, 1) := by decide +kernel
theorem dJ9_abs_0f7a4_10 : decode cJ9_abs_0f7a4 10 = .ok (.ireturn, 1) := by decide +kernel
theorem dJ9_max_7cf53_0 : decode cJ9_max_7cf53 0 = .ok (.iload_n 0, 1) := by decide +kernel
theorem dJ9_max_7cf53_1 : decode cJ9_max_7cf53 1 = .ok (.iload_n 1, 1) := by decide +kernel
theorem dJ9_max_7cf53_2 : decode cJ9_max_7cf53 2 = .ok (.if_icmp .lt 7, 3) := by decide +kernel
theorem dJ9_max_7cf53_5 : decode cJ9_max_7cf53 5 = .ok (.iload_n 0, 1) := by decide +kernel
theorem dJ9_max_7cf53_6 : decode cJ9_max_7cf53 6 = .ok (.goto 4, 3) := by decide +kernel
theorem dJ9_max_7cf53_9 : decode cJ9_max_7cf53 9 = .ok (.iload_n 1, 1) := by decide +kernel
theorem dJ9_max_7cf53_10 : decode cJ9_max_7cf53 10 = .ok (.ireturn, 1) := by decide +kernel
theorem dJ9_min_7cf53_0 : decode cJ9_min_7cf53 0 = .ok (.iload_n 0, 1) := by decide +kernel
theorem dJ9_min_7cf53_1 : decode cJ9_min_7cf53 1 = .ok (.iload_n 1, 1) := by decide +kernel
theorem dJ9_min_7cf53_2 : decode cJ9_min_7cf53 2 = .ok (.if_icmp .gt 7, 3) := by decide +kernel
theorem dJ9_min_7cf53_5 : decode cJ9_min_7cf53 5 = .ok (.iload_n 0, 1) := by decide +kernel
theorem dJ9_min_7cf53_6 : decode cJ9_min_7cf53 6 = .ok (.goto 4, 3) := by decide +kernel
theorem dJ9_min_7cf53_9 : decode cJ9_min_7cf53 9 = .ok (.iload_n 1, 1) := by decide +kernel
theorem dJ9_min_7cf53_10 : decode cJ9_min_7cf53 10 = .ok (.ireturn, 1) := by decide +kernel
theorem dJ7_fill_53178_0 : decode cJ7_fill_53178 0 = .ok (.iconst 0, 1) := by decide +kernel
theorem dJ7_fill_53178_1 : decode cJ7_fill_53178 1 = .ok (.istore_n 2, 1) := by decide +kernel
theorem dJ7_fill_53178_2 : decode cJ7_fill_53178 2 = .ok (.aload_n 0, 1) := by decide +kernel
theorem dJ7_fill_53178_3 : decode cJ7_fill_53178 3 = .ok (.arraylength, 1) := by decide +kernel
theorem dJ7_fill_53178_4 : decode cJ7_fill_53178 4 = .ok (.istore_n 3, 1) := by decide +kernel
theorem dJ7_fill_53178_5 : decode cJ7_fill_53178 5 = .ok (.iload_n 2, 1) := by decide +kernel
theorem dJ7_fill_53178_6 : decode cJ7_fill_53178 6 = .ok (.iload_n 3, 1) := by decide +kernel
theorem dJ7_fill_53178_7 : decode cJ7_fill_53178 7 = .ok (.if_icmp .ge 13, 3) := by decide +kernel
theorem dJ7_fill_53178_10 : decode cJ7_fill_53178 10 = .ok (.aload_n 0, 1) := by decide +kernel
theorem dJ7_fill_53178_11 : decode cJ7_fill_53178 11 = .ok (.iload_n 2, 1) := by decide +kernel
theorem dJ7_fill_53178_12 : decode cJ7_fill_53178 12 = .ok (.iload_n 1, 1) := by decide +kernel
theorem dJ7_fill_53178_13 : decode cJ7_fill_53178 13 = .ok (.iastore, 1) := by decide +kernel
theorem dJ7_fill_53178_14 : decode cJ7_fill_53178 14 = .ok (.iinc 2 1, 3) := by decide +kernel
theorem dJ7_fill_53178_17 : decode cJ7_fill_53178 17 = .ok (.goto (-12), 3) := by decide +kernel
theorem dJ7_fill_53178_20 : decode cJ7_fill_53178 20 = .ok (.return_, 1) := by decide +kernel
theorem dL_below_0 : decode cL_below 0 = .ok (.iload_n 0, 1) := by decide +kernel
theorem dL_below_1 : decode cL_below 1 = .ok (.ldc 7, 2) := by decide +kernel
theorem dL_below_3 : decode cL_below 3 = .ok (.iand, 1) := by decide +kernel
theorem dL_below_4 : decode cL_below 4 = .ok (.iload_n 1, 1) := by decide +kernel
theorem dL_below_5 : decode cL_below 5 = .ok (.irem, 1) := by decide +kernel
theorem dL_below_6 : decode cL_below 6 = .ok (.ireturn, 1) := by decide +kernel
theorem dL_cell_0 : decode cL_cell 0 = .ok (.iload_n 1, 1) := by decide +kernel
theorem dL_cell_1 : decode cL_cell 1 = .ok (.aload_n 0, 1) := by decide +kernel
theorem dL_cell_2 : decode cL_cell 2 = .ok (.arraylength, 1) := by decide +kernel
theorem dL_cell_3 : decode cL_cell 3 = .ok (.if_icmp .ge 9, 3) := by decide +kernel
theorem dL_cell_6 : decode cL_cell 6 = .ok (.aload_n 0, 1) := by decide +kernel
theorem dL_cell_7 : decode cL_cell 7 = .ok (.iload_n 1, 1) := by decide +kernel
theorem dL_cell_8 : decode cL_cell 8 = .ok (.iaload, 1) := by decide +kernel
theorem dL_cell_9 : decode cL_cell 9 = .ok (.goto 9, 3) := by decide +kernel
theorem dL_cell_12 : decode cL_cell 12 = .ok (.ldc 8, 2) := by decide +kernel
theorem dL_cell_14 : decode cL_cell 14 = .ok (.iload_n 1, 1) := by decide +kernel
theorem dL_cell_15 : decode cL_cell 15 = .ok (.iconst 3, 1) := by decide +kernel
theorem dL_cell_16 : decode cL_cell 16 = .ok (.iadd, 1) := by decide +kernel
theorem dL_cell_17 : decode cL_cell 17 = .ok (.imul, 1) := by decide +kernel
theorem dL_cell_18 : decode cL_cell 18 = .ok (.ireturn, 1) := by decide +kernel
set_option maxRecDepth 20000 in
theorem ggL_act_L_below : GoodIn wsL_act wsL_below := goodIn_r _ [11, 12] (by decide +kernel) (by decide +kernel)
set_option maxRecDepth 20000 in
theorem gL_act_L_below : GoodIn wsL_act (va_wsS RL 15 yL_below wsL_below) := goodIn_app (goodIn_of _ (by decide +kernel)) ggL_act_L_below
set_option maxRecDepth 20000 in
theorem ggL_act_X3_setWater : GoodIn wsL_act wsX3_setWater := goodIn_ca (goodIn_ca (goodIn_r _ [17, 18, 19, 20, 21, 22, 23, 24, 25, 26, 27, 112, 113, 114, 115, 116, 117, 118] (by decide +kernel) (by decide +kernel)) (goodIn_sub (fun _ h => List.mem_cons_of_mem _ (List.mem_append_left _ (List.mem_append_left _ (List.mem_append_right _ h)))) (by decide +kernel))) (goodIn_sub (fun _ h => List.mem_cons_of_mem _ (List.mem_append_left _ (List.mem_append_right _ h))) (by decide +kernel))
set_option maxRecDepth 20000 in
theorem gL_act_X3_setWater : GoodIn wsL_act (wsV RL 25 RX3 yX3_setWater wsX3_setWater) := goodIn_app (goodIn_of _ (by decide +kernel)) ggL_act_X3_setWater
set_option maxRecDepth 20000 in
theorem ggL_act_X3_weir : GoodIn wsL_act wsX3_weir := goodIn_ca (goodIn_ca (goodIn_r _ [31, 20, 21, 32, 33, 22, 34, 24, 25, 26, 27, 35, 36, 37, 38, 39, 40, 41, 42, 43, 44, 45, 112, 113, 114, 115, 116, 117, 118] (by decide +kernel) (by decide +kernel)) (goodIn_sub (fun _ h => List.mem_cons_of_mem _ (List.mem_append_left _ (List.mem_append_right _ h))) (by decide +kernel))) (goodIn_sub (fun _ h => List.mem_cons_of_mem _ (List.mem_append_right _ h)) (by decide +kernel))
set_option maxRecDepth 20000 in
theorem gL_act_X3_weir : GoodIn wsL_act (wsV RL 37 RX3 yX3_weir wsX3_weir) := goodIn_app (goodIn_of _ (by decide +kernel)) ggL_act_X3_weir
set_option maxRecDepth 20000 in
theorem ggL_act_X3_launch : GoodIn wsL_act wsX3_launch := goodIn_ca (goodIn_ca (goodIn_r _ [49, 20, 21, 32, 33, 50, 51, 24, 25, 26, 27, 52, 53, 54, 55, 56, 57, 58, 59, 60, 61, 62, 63, 64, 65, 66, 67, 68, 69, 70, 71, 112, 113, 114, 119, 120, 121, 122, 123, 124, 125, 126, 127, 128, 129, 130, 131, 132, 133] (by decide +kernel) (by decide +kernel)) (goodIn_sub (fun _ h => List.mem_cons_of_mem _ (List.mem_append_left _ (List.mem_append_right _ h))) (by decide +kernel))) (goodIn_sub (fun _ h => List.mem_cons_of_mem _ (List.mem_append_right _ h)) (by decide +kernel))
set_option maxRecDepth 20000 in
theorem gL_act_X3_launch : GoodIn wsL_act (wsV RL 42 RX3 yX3_launch wsX3_launch) := goodIn_app (goodIn_of _ (by decide +kernel)) ggL_act_X3_launch
set_option maxRecDepth 20000 in
theorem ggL_act_X4_more : GoodIn wsL_act wsX4_more := goodIn_r _ [75, 76] (by decide +kernel) (by decide +kernel)
set_option maxRecDepth 20000 in
theorem gL_act_X4_more : GoodIn wsL_act (va_wsS RL 45 yX4_more wsX4_more) := goodIn_app (goodIn_of _ (by decide +kernel)) ggL_act_X4_more
set_option maxRecDepth 20000 in
theorem ggL_act_X3_paddle : GoodIn wsL_act wsX3_paddle := goodIn_ca (goodIn_ca (goodIn_r _ [80, 18, 19, 20, 21, 50, 81, 82, 83, 84, 85, 55, 86, 57, 87, 88, 16, 89, 90, 67, 68, 62, 69, 70, 71, 112, 113, 114, 119, 120, 121, 122, 123, 124, 125, 126, 127, 128, 129, 130, 131, 132, 133] (by decide +kernel) (by decide +kernel)) (goodIn_sub (fun _ h => List.mem_cons_of_mem _ (List.mem_append_left _ (List.mem_append_left _ (List.mem_append_right _ h)))) (by decide +kernel))) (goodIn_sub (fun _ h => List.mem_cons_of_mem _ (List.mem_append_left _ (List.mem_append_right _ h))) (by decide +kernel))
set_option maxRecDepth 20000 in
theorem gL_act_X3_paddle : GoodIn wsL_act (wsV RL 52 RX3 yX3_paddle wsX3_paddle) := goodIn_app (goodIn_of _ (by decide +kernel)) ggL_act_X3_paddle
set_option maxRecDepth 20000 in
theorem ggL_act_X3_tar : GoodIn wsL_act wsX3_tar := goodIn_ca (goodIn_ca (goodIn_r _ [94, 18, 19, 32, 33, 50, 81, 83, 84, 85, 55, 86, 57, 95, 96, 97, 62, 98, 99, 100, 101, 102, 103, 104, 105, 112, 113, 114, 119, 120, 121, 122, 123, 124, 125, 126, 127, 128, 129, 130, 131, 132, 133] (by decide +kernel) (by decide +kernel)) (goodIn_sub (fun _ h => List.mem_cons_of_mem _ (List.mem_append_left _ (List.mem_append_left _ (List.mem_append_right _ h)))) (by decide +kernel))) (goodIn_sub (fun _ h => List.mem_cons_of_mem _ (List.mem_append_right _ h)) (by decide +kernel))
set_option maxRecDepth 20000 in
theorem gL_act_X3_tar : GoodIn wsL_act (wsV RL 56 RX3 yX3_tar wsX3_tar) := goodIn_app (goodIn_of _ (by decide +kernel)) ggL_act_X3_tar
theorem dL_act_0 : decode cL_act 0 = .ok (.aload_n 1, 1) := by decide +kernel
theorem dL_act_1 : decode cL_act 1 = .ok (.getfield 9, 3) := by decide +kernel
theorem dL_act_4 : decode cL_act 4 = .ok (.arraylength, 1) := by decide +kernel
theorem dL_act_5 : decode cL_act 5 = .ok (.ifCond .ne 7, 3) := by decide +kernel
theorem dL_act_8 : decode cL_act 8 = .ok (.iconst (-1), 1) := by decide +kernel
theorem dL_act_9 : decode cL_act 9 = .ok (.goto 14, 3) := by decide +kernel
theorem dL_act_12 : decode cL_act 12 = .ok (.iload_n 2, 1) := by decide +kernel
theorem dL_act_13 : decode cL_act 13 = .ok (.iconst 3, 1) := by decide +kernel
theorem dL_act_14 : decode cL_act 14 = .ok (.ishr, 1) := by decide +kernel
theorem dL_act_15 : decode cL_act 15 = .ok (.aload_n 1, 1) := by decide +kernel
theorem dL_act_16 : decode cL_act 16 = .ok (.getfield 9, 3) := by decide +kernel
theorem dL_act_19 : decode cL_act 19 = .ok (.arraylength, 1) := by decide +kernel
theorem dL_act_20 : decode cL_act 20 = .ok (.invokestatic 15, 3) := by decide +kernel
theorem dL_act_23 : decode cL_act 23 = .ok (.istore_n 3, 1) := by decide +kernel
theorem dL_act_24 : decode cL_act 24 = .ok (.iload_n 2, 1) := by decide +kernel
theorem dL_act_25 : decode cL_act 25 = .ok (.bipush 8, 2) := by decide +kernel
theorem dL_act_27 : decode cL_act 27 = .ok (.invokestatic 15, 3) := by decide +kernel
theorem dL_act_30 : decode cL_act 30 = .ok (.tableswitch 511 0 6 #[42, 100, 230, 385, 385, 385, 385], 42) := by decide +kernel
theorem dL_act_72 : decode cL_act 72 = .ok (.iload_n 2, 1) := by decide +kernel
theorem dL_act_73 : decode cL_act 73 = .ok (.iconst 4, 1) := by decide +kernel
theorem dL_act_74 : decode cL_act 74 = .ok (.ishr, 1) := by decide +kernel
theorem dL_act_75 : decode cL_act 75 = .ok (.iconst 5, 1) := by decide +kernel
theorem dL_act_76 : decode cL_act 76 = .ok (.invokestatic 15, 3) := by decide +kernel
theorem dL_act_79 : decode cL_act 79 = .ok (.istore 5, 2) := by decide +kernel
theorem dL_act_81 : decode cL_act 81 = .ok (.aload_n 1, 1) := by decide +kernel
theorem dL_act_82 : decode cL_act 82 = .ok (.getfield 21, 3) := by decide +kernel
theorem dL_act_85 : decode cL_act 85 = .ok (.iload 5, 2) := by decide +kernel
theorem dL_act_87 : decode cL_act 87 = .ok (.iaload, 1) := by decide +kernel
theorem dL_act_88 : decode cL_act 88 = .ok (.istore 6, 2) := by decide +kernel
theorem dL_act_90 : decode cL_act 90 = .ok (.aload_n 1, 1) := by decide +kernel
theorem dL_act_91 : decode cL_act 91 = .ok (.getfield 21, 3) := by decide +kernel
theorem dL_act_94 : decode cL_act 94 = .ok (.iload 5, 2) := by decide +kernel
theorem dL_act_96 : decode cL_act 96 = .ok (.iload_n 2, 1) := by decide +kernel
theorem dL_act_97 : decode cL_act 97 = .ok (.bipush 6, 2) := by decide +kernel
theorem dL_act_99 : decode cL_act 99 = .ok (.ishr, 1) := by decide +kernel
theorem dL_act_100 : decode cL_act 100 = .ok (.bipush 7, 2) := by decide +kernel
theorem dL_act_102 : decode cL_act 102 = .ok (.invokestatic 15, 3) := by decide +kernel
theorem dL_act_105 : decode cL_act 105 = .ok (.iastore, 1) := by decide +kernel
theorem dL_act_106 : decode cL_act 106 = .ok (.aload_n 0, 1) := by decide +kernel
theorem dL_act_107 : decode cL_act 107 = .ok (.iload 5, 2) := by decide +kernel
theorem dL_act_109 : decode cL_act 109 = .ok (.aload_n 1, 1) := by decide +kernel
theorem dL_act_110 : decode cL_act 110 = .ok (.getfield 21, 3) := by decide +kernel
theorem dL_act_113 : decode cL_act 113 = .ok (.iload 5, 2) := by decide +kernel
theorem dL_act_115 : decode cL_act 115 = .ok (.iaload, 1) := by decide +kernel
theorem dL_act_116 : decode cL_act 116 = .ok (.invokevirtual 25, 3) := by decide +kernel
theorem dL_act_119 : decode cL_act 119 = .ok (.iload 6, 2) := by decide +kernel
theorem dL_act_121 : decode cL_act 121 = .ok (.if_icmp .ne 7, 3) := by decide +kernel
theorem dL_act_124 : decode cL_act 124 = .ok (.iconst 1, 1) := by decide +kernel
theorem dL_act_125 : decode cL_act 125 = .ok (.goto 4, 3) := by decide +kernel
theorem dL_act_128 : decode cL_act 128 = .ok (.iconst 0, 1) := by decide +kernel
theorem dL_act_129 : decode cL_act 129 = .ok (.ireturn, 1) := by decide +kernel
theorem dL_act_130 : decode cL_act 130 = .ok (.iconst 1, 1) := by decide +kernel
theorem dL_act_131 : decode cL_act 131 = .ok (.iload_n 2, 1) := by decide +kernel
theorem dL_act_132 : decode cL_act 132 = .ok (.iconst 5, 1) := by decide +kernel
theorem dL_act_133 : decode cL_act 133 = .ok (.ishr, 1) := by decide +kernel
theorem dL_act_134 : decode cL_act 134 = .ok (.iload_n 2, 1) := by decide +kernel
theorem dL_act_135 : decode cL_act 135 = .ok (.bipush 8, 2) := by decide +kernel
theorem dL_act_137 : decode cL_act 137 = .ok (.ishr, 1) := by decide +kernel
theorem dL_act_138 : decode cL_act 138 = .ok (.iconst 2, 1) := by decide +kernel
theorem dL_act_139 : decode cL_act 139 = .ok (.invokestatic 15, 3) := by decide +kernel
theorem dL_act_142 : decode cL_act 142 = .ok (.ifCond .ne 9, 3) := by decide +kernel
theorem dL_act_145 : decode cL_act 145 = .ok (.sipush 199, 3) := by decide +kernel
theorem dL_act_148 : decode cL_act 148 = .ok (.goto 5, 3) := by decide +kernel
theorem dL_act_151 : decode cL_act 151 = .ok (.bipush 60, 2) := by decide +kernel
theorem dL_act_153 : decode cL_act 153 = .ok (.invokestatic 15, 3) := by decide +kernel
theorem dL_act_156 : decode cL_act 156 = .ok (.iadd, 1) := by decide +kernel
theorem dL_act_157 : decode cL_act 157 = .ok (.istore 5, 2) := by decide +kernel
theorem dL_act_159 : decode cL_act 159 = .ok (.iload_n 2, 1) := by decide +kernel
theorem dL_act_160 : decode cL_act 160 = .ok (.iconst 3, 1) := by decide +kernel
theorem dL_act_161 : decode cL_act 161 = .ok (.ishr, 1) := by decide +kernel
theorem dL_act_162 : decode cL_act 162 = .ok (.iconst 5, 1) := by decide +kernel
theorem dL_act_163 : decode cL_act 163 = .ok (.invokestatic 15, 3) := by decide +kernel
theorem dL_act_166 : decode cL_act 166 = .ok (.istore 6, 2) := by decide +kernel
theorem dL_act_168 : decode cL_act 168 = .ok (.aload_n 1, 1) := by decide +kernel
theorem dL_act_169 : decode cL_act 169 = .ok (.getfield 30, 3) := by decide +kernel
theorem dL_act_172 : decode cL_act 172 = .ok (.bipush 6, 2) := by decide +kernel
theorem dL_act_174 : decode cL_act 174 = .ok (.if_icmp .ge 17, 3) := by decide +kernel
theorem dL_act_177 : decode cL_act 177 = .ok (.aload_n 1, 1) := by decide +kernel
theorem dL_act_178 : decode cL_act 178 = .ok (.getfield 34, 3) := by decide +kernel
theorem dL_act_181 : decode cL_act 181 = .ok (.iload 5, 2) := by decide +kernel
theorem dL_act_183 : decode cL_act 183 = .ok (.iaload, 1) := by decide +kernel
theorem dL_act_184 : decode cL_act 184 = .ok (.ifCond .ge 7, 3) := by decide +kernel
theorem dL_act_187 : decode cL_act 187 = .ok (.iconst 1, 1) := by decide +kernel
theorem dL_act_188 : decode cL_act 188 = .ok (.goto 4, 3) := by decide +kernel
theorem dL_act_191 : decode cL_act 191 = .ok (.iconst 0, 1) := by decide +kernel
theorem dL_act_192 : decode cL_act 192 = .ok (.istore 7, 2) := by decide +kernel
theorem dL_act_194 : decode cL_act 194 = .ok (.aload_n 0, 1) := by decide +kernel
theorem dL_act_195 : decode cL_act 195 = .ok (.iload 5, 2) := by decide +kernel
theorem dL_act_197 : decode cL_act 197 = .ok (.iload 6, 2) := by decide +kernel
theorem dL_act_199 : decode cL_act 199 = .ok (.invokevirtual 37, 3) := by decide +kernel
theorem dL_act_202 : decode cL_act 202 = .ok (.istore 4, 2) := by decide +kernel
theorem dL_act_204 : decode cL_act 204 = .ok (.goto 8, 3) := by decide +kernel
theorem dL_act_207 : decode cL_act 207 = .ok (.astore 8, 2) := by decide +kernel
theorem dL_act_209 : decode cL_act 209 = .ok (.iconst (-1), 1) := by decide +kernel
theorem dL_act_210 : decode cL_act 210 = .ok (.istore 4, 2) := by decide +kernel
theorem dL_act_212 : decode cL_act 212 = .ok (.iload 7, 2) := by decide +kernel
theorem dL_act_214 : decode cL_act 214 = .ok (.ifCond .eq 22, 3) := by decide +kernel
theorem dL_act_217 : decode cL_act 217 = .ok (.aload_n 1, 1) := by decide +kernel
theorem dL_act_218 : decode cL_act 218 = .ok (.getfield 34, 3) := by decide +kernel
theorem dL_act_221 : decode cL_act 221 = .ok (.iload 5, 2) := by decide +kernel
theorem dL_act_223 : decode cL_act 223 = .ok (.iload 6, 2) := by decide +kernel
theorem dL_act_225 : decode cL_act 225 = .ok (.iastore, 1) := by decide +kernel
theorem dL_act_226 : decode cL_act 226 = .ok (.aload_n 1, 1) := by decide +kernel
theorem dL_act_227 : decode cL_act 227 = .ok (.dup, 1) := by decide +kernel
theorem dL_act_228 : decode cL_act 228 = .ok (.getfield 30, 3) := by decide +kernel
theorem dL_act_231 : decode cL_act 231 = .ok (.iconst 1, 1) := by decide +kernel
theorem dL_act_232 : decode cL_act 232 = .ok (.iadd, 1) := by decide +kernel
theorem dL_act_233 : decode cL_act 233 = .ok (.putfield 30, 3) := by decide +kernel
theorem dL_act_236 : decode cL_act 236 = .ok (.iload 4, 2) := by decide +kernel
theorem dL_act_238 : decode cL_act 238 = .ok (.iload 7, 2) := by decide +kernel
theorem dL_act_240 : decode cL_act 240 = .ok (.ifCond .eq 10, 3) := by decide +kernel
theorem dL_act_243 : decode cL_act 243 = .ok (.aload_n 1, 1) := by decide +kernel
theorem dL_act_244 : decode cL_act 244 = .ok (.getfield 30, 3) := by decide +kernel
theorem dL_act_247 : decode cL_act 247 = .ok (.goto 4, 3) := by decide +kernel
theorem dL_act_250 : decode cL_act 250 = .ok (.iconst (-1), 1) := by decide +kernel
theorem dL_act_251 : decode cL_act 251 = .ok (.if_icmp .ne 7, 3) := by decide +kernel
theorem dL_act_254 : decode cL_act 254 = .ok (.iconst 1, 1) := by decide +kernel
theorem dL_act_255 : decode cL_act 255 = .ok (.goto 4, 3) := by decide +kernel
theorem dL_act_258 : decode cL_act 258 = .ok (.iconst 0, 1) := by decide +kernel
theorem dL_act_259 : decode cL_act 259 = .ok (.ireturn, 1) := by decide +kernel
theorem dL_act_260 : decode cL_act 260 = .ok (.bipush 9, 2) := by decide +kernel
theorem dL_act_262 : decode cL_act 262 = .ok (.newarray .int, 2) := by decide +kernel
theorem dL_act_264 : decode cL_act 264 = .ok (.dup, 1) := by decide +kernel
theorem dL_act_265 : decode cL_act 265 = .ok (.iconst 0, 1) := by decide +kernel
theorem dL_act_266 : decode cL_act 266 = .ok (.iconst 0, 1) := by decide +kernel
theorem dL_act_267 : decode cL_act 267 = .ok (.iastore, 1) := by decide +kernel
theorem dL_act_268 : decode cL_act 268 = .ok (.dup, 1) := by decide +kernel
theorem dL_act_269 : decode cL_act 269 = .ok (.iconst 1, 1) := by decide +kernel
theorem dL_act_270 : decode cL_act 270 = .ok (.iload_n 2, 1) := by decide +kernel
theorem dL_act_271 : decode cL_act 271 = .ok (.iconst 4, 1) := by decide +kernel
theorem dL_act_272 : decode cL_act 272 = .ok (.ishr, 1) := by decide +kernel
theorem dL_act_273 : decode cL_act 273 = .ok (.iconst 5, 1) := by decide +kernel
theorem dL_act_274 : decode cL_act 274 = .ok (.invokestatic 15, 3) := by decide +kernel
theorem dL_act_277 : decode cL_act 277 = .ok (.iastore, 1) := by decide +kernel
theorem dL_act_278 : decode cL_act 278 = .ok (.dup, 1) := by decide +kernel
theorem dL_act_279 : decode cL_act 279 = .ok (.iconst 2, 1) := by decide +kernel
theorem dL_act_280 : decode cL_act 280 = .ok (.iconst 0, 1) := by decide +kernel
theorem dL_act_281 : decode cL_act 281 = .ok (.iastore, 1) := by decide +kernel
theorem dL_act_282 : decode cL_act 282 = .ok (.dup, 1) := by decide +kernel
theorem dL_act_283 : decode cL_act 283 = .ok (.iconst 3, 1) := by decide +kernel
theorem dL_act_284 : decode cL_act 284 = .ok (.iconst 0, 1) := by decide +kernel
theorem dL_act_285 : decode cL_act 285 = .ok (.iastore, 1) := by decide +kernel
theorem dL_act_286 : decode cL_act 286 = .ok (.dup, 1) := by decide +kernel
theorem dL_act_287 : decode cL_act 287 = .ok (.iconst 4, 1) := by decide +kernel
theorem dL_act_288 : decode cL_act 288 = .ok (.iconst 0, 1) := by decide +kernel
theorem dL_act_289 : decode cL_act 289 = .ok (.iastore, 1) := by decide +kernel
theorem dL_act_290 : decode cL_act 290 = .ok (.dup, 1) := by decide +kernel
theorem dL_act_291 : decode cL_act 291 = .ok (.iconst 5, 1) := by decide +kernel
theorem dL_act_292 : decode cL_act 292 = .ok (.iconst (-1), 1) := by decide +kernel
theorem dL_act_293 : decode cL_act 293 = .ok (.iastore, 1) := by decide +kernel
theorem dL_act_294 : decode cL_act 294 = .ok (.dup, 1) := by decide +kernel
theorem dL_act_295 : decode cL_act 295 = .ok (.bipush 6, 2) := by decide +kernel
theorem dL_act_297 : decode cL_act 297 = .ok (.iconst 0, 1) := by decide +kernel
theorem dL_act_298 : decode cL_act 298 = .ok (.iastore, 1) := by decide +kernel
theorem dL_act_299 : decode cL_act 299 = .ok (.dup, 1) := by decide +kernel
theorem dL_act_300 : decode cL_act 300 = .ok (.bipush 7, 2) := by decide +kernel
theorem dL_act_302 : decode cL_act 302 = .ok (.iconst 0, 1) := by decide +kernel
theorem dL_act_303 : decode cL_act 303 = .ok (.iastore, 1) := by decide +kernel
theorem dL_act_304 : decode cL_act 304 = .ok (.dup, 1) := by decide +kernel
theorem dL_act_305 : decode cL_act 305 = .ok (.bipush 8, 2) := by decide +kernel
theorem dL_act_307 : decode cL_act 307 = .ok (.iconst 1, 1) := by decide +kernel
theorem dL_act_308 : decode cL_act 308 = .ok (.iload_n 2, 1) := by decide +kernel
theorem dL_act_309 : decode cL_act 309 = .ok (.bipush 7, 2) := by decide +kernel
theorem dL_act_311 : decode cL_act 311 = .ok (.ishr, 1) := by decide +kernel
theorem dL_act_312 : decode cL_act 312 = .ok (.bipush 8, 2) := by decide +kernel
theorem dL_act_314 : decode cL_act 314 = .ok (.invokestatic 15, 3) := by decide +kernel
theorem dL_act_317 : decode cL_act 317 = .ok (.iadd, 1) := by decide +kernel
theorem dL_act_318 : decode cL_act 318 = .ok (.iastore, 1) := by decide +kernel
theorem dL_act_319 : decode cL_act 319 = .ok (.astore 5, 2) := by decide +kernel
theorem dL_act_321 : decode cL_act 321 = .ok (.aload_n 1, 1) := by decide +kernel
theorem dL_act_322 : decode cL_act 322 = .ok (.getfield 9, 3) := by decide +kernel
theorem dL_act_325 : decode cL_act 325 = .ok (.arraylength, 1) := by decide +kernel
theorem dL_act_326 : decode cL_act 326 = .ok (.istore 6, 2) := by decide +kernel
theorem dL_act_328 : decode cL_act 328 = .ok (.aload_n 0, 1) := by decide +kernel
theorem dL_act_329 : decode cL_act 329 = .ok (.aload 5, 2) := by decide +kernel
theorem dL_act_331 : decode cL_act 331 = .ok (.iconst 1, 1) := by decide +kernel
theorem dL_act_332 : decode cL_act 332 = .ok (.iaload, 1) := by decide +kernel
theorem dL_act_333 : decode cL_act 333 = .ok (.aload 5, 2) := by decide +kernel
theorem dL_act_335 : decode cL_act 335 = .ok (.bipush 8, 2) := by decide +kernel
theorem dL_act_337 : decode cL_act 337 = .ok (.iaload, 1) := by decide +kernel
theorem dL_act_338 : decode cL_act 338 = .ok (.invokevirtual 42, 3) := by decide +kernel
theorem dL_act_341 : decode cL_act 341 = .ok (.istore 4, 2) := by decide +kernel
theorem dL_act_343 : decode cL_act 343 = .ok (.goto 8, 3) := by decide +kernel
theorem dL_act_346 : decode cL_act 346 = .ok (.astore 7, 2) := by decide +kernel
theorem dL_act_348 : decode cL_act 348 = .ok (.iconst (-1), 1) := by decide +kernel
theorem dL_act_349 : decode cL_act 349 = .ok (.istore 4, 2) := by decide +kernel
theorem dL_act_351 : decode cL_act 351 = .ok (.iload 4, 2) := by decide +kernel
theorem dL_act_353 : decode cL_act 353 = .ok (.iload 6, 2) := by decide +kernel
theorem dL_act_355 : decode cL_act 355 = .ok (.bipush 6, 2) := by decide +kernel
theorem dL_act_357 : decode cL_act 357 = .ok (.if_icmp .ge 8, 3) := by decide +kernel
theorem dL_act_360 : decode cL_act 360 = .ok (.iload 6, 2) := by decide +kernel
theorem dL_act_362 : decode cL_act 362 = .ok (.goto 4, 3) := by decide +kernel
theorem dL_act_365 : decode cL_act 365 = .ok (.iconst (-1), 1) := by decide +kernel
theorem dL_act_366 : decode cL_act 366 = .ok (.if_icmp .eq 5, 3) := by decide +kernel
theorem dL_act_369 : decode cL_act 369 = .ok (.iconst 0, 1) := by decide +kernel
theorem dL_act_370 : decode cL_act 370 = .ok (.ireturn, 1) := by decide +kernel
theorem dL_act_371 : decode cL_act 371 = .ok (.iload 4, 2) := by decide +kernel
theorem dL_act_373 : decode cL_act 373 = .ok (.ifCond .ge 5, 3) := by decide +kernel
theorem dL_act_376 : decode cL_act 376 = .ok (.iconst 1, 1) := by decide +kernel
theorem dL_act_377 : decode cL_act 377 = .ok (.ireturn, 1) := by decide +kernel
theorem dL_act_378 : decode cL_act 378 = .ok (.aload_n 1, 1) := by decide +kernel
theorem dL_act_379 : decode cL_act 379 = .ok (.aload_n 1, 1) := by decide +kernel
theorem dL_act_380 : decode cL_act 380 = .ok (.getfield 9, 3) := by decide +kernel
theorem dL_act_383 : decode cL_act 383 = .ok (.aload 5, 2) := by decide +kernel
theorem dL_act_385 : decode cL_act 385 = .ok (.invokestatic 45, 3) := by decide +kernel
theorem dL_act_388 : decode cL_act 388 = .ok (.putfield 9, 3) := by decide +kernel
theorem dL_act_391 : decode cL_act 391 = .ok (.iconst 1, 1) := by decide +kernel
theorem dL_act_392 : decode cL_act 392 = .ok (.newarray .int, 2) := by decide +kernel
theorem dL_act_394 : decode cL_act 394 = .ok (.dup, 1) := by decide +kernel
theorem dL_act_395 : decode cL_act 395 = .ok (.iconst 0, 1) := by decide +kernel
theorem dL_act_396 : decode cL_act 396 = .ok (.iconst 3, 1) := by decide +kernel
theorem dL_act_397 : decode cL_act 397 = .ok (.iastore, 1) := by decide +kernel
theorem dL_act_398 : decode cL_act 398 = .ok (.astore 7, 2) := by decide +kernel
theorem dL_act_400 : decode cL_act 400 = .ok (.aload_n 1, 1) := by decide +kernel
theorem dL_act_401 : decode cL_act 401 = .ok (.aload_n 1, 1) := by decide +kernel
theorem dL_act_402 : decode cL_act 402 = .ok (.getfield 49, 3) := by decide +kernel
theorem dL_act_405 : decode cL_act 405 = .ok (.aload 7, 2) := by decide +kernel
theorem dL_act_407 : decode cL_act 407 = .ok (.invokestatic 45, 3) := by decide +kernel
theorem dL_act_410 : decode cL_act 410 = .ok (.putfield 49, 3) := by decide +kernel
theorem dL_act_413 : decode cL_act 413 = .ok (.iconst 1, 1) := by decide +kernel
theorem dL_act_414 : decode cL_act 414 = .ok (.ireturn, 1) := by decide +kernel
theorem dL_act_415 : decode cL_act 415 = .ok (.iload_n 3, 1) := by decide +kernel
theorem dL_act_416 : decode cL_act 416 = .ok (.ifCond .ge 5, 3) := by decide +kernel
theorem dL_act_419 : decode cL_act 419 = .ok (.iconst 1, 1) := by decide +kernel
theorem dL_act_420 : decode cL_act 420 = .ok (.ireturn, 1) := by decide +kernel
theorem dL_act_421 : decode cL_act 421 = .ok (.iconst 1, 1) := by decide +kernel
theorem dL_act_422 : decode cL_act 422 = .ok (.iload_n 2, 1) := by decide +kernel
theorem dL_act_423 : decode cL_act 423 = .ok (.iconst 5, 1) := by decide +kernel
theorem dL_act_424 : decode cL_act 424 = .ok (.ishr, 1) := by decide +kernel
theorem dL_act_425 : decode cL_act 425 = .ok (.bipush 6, 2) := by decide +kernel
theorem dL_act_427 : decode cL_act 427 = .ok (.invokestatic 15, 3) := by decide +kernel
theorem dL_act_430 : decode cL_act 430 = .ok (.iadd, 1) := by decide +kernel
theorem dL_act_431 : decode cL_act 431 = .ok (.newarray .int, 2) := by decide +kernel
theorem dL_act_433 : decode cL_act 433 = .ok (.astore 5, 2) := by decide +kernel
theorem dL_act_435 : decode cL_act 435 = .ok (.iconst 0, 1) := by decide +kernel
theorem dL_act_436 : decode cL_act 436 = .ok (.istore 6, 2) := by decide +kernel
theorem dL_act_438 : decode cL_act 438 = .ok (.iconst 0, 1) := by decide +kernel
theorem dL_act_439 : decode cL_act 439 = .ok (.istore 7, 2) := by decide +kernel
theorem dL_act_441 : decode cL_act 441 = .ok (.iload 7, 2) := by decide +kernel
theorem dL_act_443 : decode cL_act 443 = .ok (.aload 5, 2) := by decide +kernel
theorem dL_act_445 : decode cL_act 445 = .ok (.arraylength, 1) := by decide +kernel
theorem dL_act_446 : decode cL_act 446 = .ok (.if_icmp .ge 57, 3) := by decide +kernel
theorem dL_act_449 : decode cL_act 449 = .ok (.aload 5, 2) := by decide +kernel
theorem dL_act_451 : decode cL_act 451 = .ok (.iload 7, 2) := by decide +kernel
theorem dL_act_453 : decode cL_act 453 = .ok (.iload_n 2, 1) := by decide +kernel
theorem dL_act_454 : decode cL_act 454 = .ok (.bipush 7, 2) := by decide +kernel
theorem dL_act_456 : decode cL_act 456 = .ok (.iload 7, 2) := by decide +kernel
theorem dL_act_458 : decode cL_act 458 = .ok (.iadd, 1) := by decide +kernel
theorem dL_act_459 : decode cL_act 459 = .ok (.ishr, 1) := by decide +kernel
theorem dL_act_460 : decode cL_act 460 = .ok (.iconst 3, 1) := by decide +kernel
theorem dL_act_461 : decode cL_act 461 = .ok (.invokestatic 15, 3) := by decide +kernel
theorem dL_act_464 : decode cL_act 464 = .ok (.ifCond .ne 7, 3) := by decide +kernel
theorem dL_act_467 : decode cL_act 467 = .ok (.iconst 3, 1) := by decide +kernel
theorem dL_act_468 : decode cL_act 468 = .ok (.goto 15, 3) := by decide +kernel
theorem dL_act_471 : decode cL_act 471 = .ok (.iload_n 2, 1) := by decide +kernel
theorem dL_act_472 : decode cL_act 472 = .ok (.iconst 4, 1) := by decide +kernel
theorem dL_act_473 : decode cL_act 473 = .ok (.ishr, 1) := by decide +kernel
theorem dL_act_474 : decode cL_act 474 = .ok (.iconst 3, 1) := by decide +kernel
theorem dL_act_475 : decode cL_act 475 = .ok (.iload 7, 2) := by decide +kernel
theorem dL_act_477 : decode cL_act 477 = .ok (.imul, 1) := by decide +kernel
theorem dL_act_478 : decode cL_act 478 = .ok (.iadd, 1) := by decide +kernel
theorem dL_act_479 : decode cL_act 479 = .ok (.iconst 4, 1) := by decide +kernel
theorem dL_act_480 : decode cL_act 480 = .ok (.invokestatic 15, 3) := by decide +kernel
theorem dL_act_483 : decode cL_act 483 = .ok (.iastore, 1) := by decide +kernel
theorem dL_act_484 : decode cL_act 484 = .ok (.bipush 10, 2) := by decide +kernel
theorem dL_act_486 : decode cL_act 486 = .ok (.iload 6, 2) := by decide +kernel
theorem dL_act_488 : decode cL_act 488 = .ok (.imul, 1) := by decide +kernel
theorem dL_act_489 : decode cL_act 489 = .ok (.aload 5, 2) := by decide +kernel
theorem dL_act_491 : decode cL_act 491 = .ok (.iload 7, 2) := by decide +kernel
theorem dL_act_493 : decode cL_act 493 = .ok (.iaload, 1) := by decide +kernel
theorem dL_act_494 : decode cL_act 494 = .ok (.iadd, 1) := by decide +kernel
theorem dL_act_495 : decode cL_act 495 = .ok (.istore 6, 2) := by decide +kernel
theorem dL_act_497 : decode cL_act 497 = .ok (.iinc 7 1, 3) := by decide +kernel
theorem dL_act_500 : decode cL_act 500 = .ok (.goto (-59), 3) := by decide +kernel
theorem dL_act_503 : decode cL_act 503 = .ok (.aload_n 1, 1) := by decide +kernel
theorem dL_act_504 : decode cL_act 504 = .ok (.getfield 49, 3) := by decide +kernel
theorem dL_act_507 : decode cL_act 507 = .ok (.iload_n 3, 1) := by decide +kernel
theorem dL_act_508 : decode cL_act 508 = .ok (.aaload, 1) := by decide +kernel
theorem dL_act_509 : decode cL_act 509 = .ok (.arraylength, 1) := by decide +kernel
theorem dL_act_510 : decode cL_act 510 = .ok (.istore 7, 2) := by decide +kernel
theorem dL_act_512 : decode cL_act 512 = .ok (.aload_n 1, 1) := by decide +kernel
theorem dL_act_513 : decode cL_act 513 = .ok (.getfield 49, 3) := by decide +kernel
theorem dL_act_516 : decode cL_act 516 = .ok (.iload_n 3, 1) := by decide +kernel
theorem dL_act_517 : decode cL_act 517 = .ok (.aload 5, 2) := by decide +kernel
theorem dL_act_519 : decode cL_act 519 = .ok (.aastore, 1) := by decide +kernel
theorem dL_act_520 : decode cL_act 520 = .ok (.aload_n 0, 1) := by decide +kernel
theorem dL_act_521 : decode cL_act 521 = .ok (.iload_n 3, 1) := by decide +kernel
theorem dL_act_522 : decode cL_act 522 = .ok (.aload 5, 2) := by decide +kernel
theorem dL_act_524 : decode cL_act 524 = .ok (.arraylength, 1) := by decide +kernel
theorem dL_act_525 : decode cL_act 525 = .ok (.iload 6, 2) := by decide +kernel
theorem dL_act_527 : decode cL_act 527 = .ok (.invokevirtual 52, 3) := by decide +kernel
theorem dL_act_530 : decode cL_act 530 = .ok (.iload 7, 2) := by decide +kernel
theorem dL_act_532 : decode cL_act 532 = .ok (.if_icmp .ne 7, 3) := by decide +kernel
theorem dL_act_535 : decode cL_act 535 = .ok (.iconst 1, 1) := by decide +kernel
theorem dL_act_536 : decode cL_act 536 = .ok (.goto 4, 3) := by decide +kernel
theorem dL_act_539 : decode cL_act 539 = .ok (.iconst 0, 1) := by decide +kernel
theorem dL_act_540 : decode cL_act 540 = .ok (.ireturn, 1) := by decide +kernel
theorem dL_act_541 : decode cL_act 541 = .ok (.iload_n 3, 1) := by decide +kernel
theorem dL_act_542 : decode cL_act 542 = .ok (.ifCond .lt 14, 3) := by decide +kernel
theorem dL_act_545 : decode cL_act 545 = .ok (.iload_n 2, 1) := by decide +kernel
theorem dL_act_546 : decode cL_act 546 = .ok (.bipush 6, 2) := by decide +kernel
theorem dL_act_548 : decode cL_act 548 = .ok (.ishr, 1) := by decide +kernel
theorem dL_act_549 : decode cL_act 549 = .ok (.iconst 2, 1) := by decide +kernel
theorem dL_act_550 : decode cL_act 550 = .ok (.invokestatic 15, 3) := by decide +kernel
theorem dL_act_553 : decode cL_act 553 = .ok (.ifCond .ne 5, 3) := by decide +kernel
theorem dL_act_556 : decode cL_act 556 = .ok (.iconst 1, 1) := by decide +kernel
theorem dL_act_557 : decode cL_act 557 = .ok (.ireturn, 1) := by decide +kernel
theorem dL_act_558 : decode cL_act 558 = .ok (.aload_n 1, 1) := by decide +kernel
theorem dL_act_559 : decode cL_act 559 = .ok (.getfield 9, 3) := by decide +kernel
theorem dL_act_562 : decode cL_act 562 = .ok (.iload_n 3, 1) := by decide +kernel
theorem dL_act_563 : decode cL_act 563 = .ok (.aaload, 1) := by decide +kernel
theorem dL_act_564 : decode cL_act 564 = .ok (.astore 5, 2) := by decide +kernel
theorem dL_act_566 : decode cL_act 566 = .ok (.aload 5, 2) := by decide +kernel
theorem dL_act_568 : decode cL_act 568 = .ok (.iconst 5, 1) := by decide +kernel
theorem dL_act_569 : decode cL_act 569 = .ok (.iaload, 1) := by decide +kernel
theorem dL_act_570 : decode cL_act 570 = .ok (.ifCond .ge 10, 3) := by decide +kernel
theorem dL_act_573 : decode cL_act 573 = .ok (.aload 5, 2) := by decide +kernel
theorem dL_act_575 : decode cL_act 575 = .ok (.iconst 3, 1) := by decide +kernel
theorem dL_act_576 : decode cL_act 576 = .ok (.iaload, 1) := by decide +kernel
theorem dL_act_577 : decode cL_act 577 = .ok (.goto 4, 3) := by decide +kernel
theorem dL_act_580 : decode cL_act 580 = .ok (.iconst (-1), 1) := by decide +kernel
theorem dL_act_581 : decode cL_act 581 = .ok (.istore 6, 2) := by decide +kernel
theorem dL_act_583 : decode cL_act 583 = .ok (.aload 5, 2) := by decide +kernel
theorem dL_act_585 : decode cL_act 585 = .ok (.iconst 5, 1) := by decide +kernel
theorem dL_act_586 : decode cL_act 586 = .ok (.iaload, 1) := by decide +kernel
theorem dL_act_587 : decode cL_act 587 = .ok (.ifCond .ge 16, 3) := by decide +kernel
theorem dL_act_590 : decode cL_act 590 = .ok (.aload 5, 2) := by decide +kernel
theorem dL_act_592 : decode cL_act 592 = .ok (.iconst 3, 1) := by decide +kernel
theorem dL_act_593 : decode cL_act 593 = .ok (.iconst 0, 1) := by decide +kernel
theorem dL_act_594 : decode cL_act 594 = .ok (.iastore, 1) := by decide +kernel
theorem dL_act_595 : decode cL_act 595 = .ok (.aload 5, 2) := by decide +kernel
theorem dL_act_597 : decode cL_act 597 = .ok (.iconst 4, 1) := by decide +kernel
theorem dL_act_598 : decode cL_act 598 = .ok (.dup2, 1) := by decide +kernel
theorem dL_act_599 : decode cL_act 599 = .ok (.iaload, 1) := by decide +kernel
theorem dL_act_600 : decode cL_act 600 = .ok (.iconst 4, 1) := by decide +kernel
theorem dL_act_601 : decode cL_act 601 = .ok (.iadd, 1) := by decide +kernel
theorem dL_act_602 : decode cL_act 602 = .ok (.iastore, 1) := by decide +kernel
theorem dL_act_603 : decode cL_act 603 = .ok (.aload_n 0, 1) := by decide +kernel
theorem dL_act_604 : decode cL_act 604 = .ok (.iload_n 3, 1) := by decide +kernel
theorem dL_act_605 : decode cL_act 605 = .ok (.invokevirtual 56, 3) := by decide +kernel
theorem dL_act_608 : decode cL_act 608 = .ok (.istore 4, 2) := by decide +kernel
theorem dL_act_610 : decode cL_act 610 = .ok (.goto 8, 3) := by decide +kernel
theorem dL_act_613 : decode cL_act 613 = .ok (.astore 7, 2) := by decide +kernel
theorem dL_act_615 : decode cL_act 615 = .ok (.iconst (-1), 1) := by decide +kernel
theorem dL_act_616 : decode cL_act 616 = .ok (.istore 4, 2) := by decide +kernel
theorem dL_act_618 : decode cL_act 618 = .ok (.iload 4, 2) := by decide +kernel
theorem dL_act_620 : decode cL_act 620 = .ok (.iload 6, 2) := by decide +kernel
theorem dL_act_622 : decode cL_act 622 = .ok (.if_icmp .ne 7, 3) := by decide +kernel
theorem dL_act_625 : decode cL_act 625 = .ok (.iconst 1, 1) := by decide +kernel
theorem dL_act_626 : decode cL_act 626 = .ok (.goto 4, 3) := by decide +kernel
theorem dL_act_629 : decode cL_act 629 = .ok (.iconst 0, 1) := by decide +kernel
theorem dL_act_630 : decode cL_act 630 = .ok (.ireturn, 1) := by decide +kernel
end
section
set_option maxRecDepth 20000 in
theorem ggL_build_X4_init : GoodIn wsL_build wsX4_init := goodIn_r _ [6, 7, 8, 9, 10, 11, 12, 13, 14, 15, 16, 17, 18, 19, 207, 208, 209, 210, 211, 212] (by decide +kernel) (by decide +kernel)
set_option maxRecDepth 20000 in
theorem gL_build_X4_init : GoodIn wsL_build (wsX4_init) := ggL_build_X4_init
set_option maxRecDepth 20000 in
theorem ggL_build_L_cell : GoodIn wsL_build wsL_cell := goodIn_r _ [23, 24] (by decide +kernel) (by decide +kernel)
set_option maxRecDepth 20000 in
theorem gL_build_L_cell : GoodIn wsL_build (va_wsS RL 61 yL_cell wsL_cell) := goodIn_app (goodIn_of _ (by decide +kernel)) ggL_build_L_cell
set_option maxRecDepth 20000 in
theorem ggL_build_L_below : GoodIn wsL_build wsL_below := goodIn_r _ [27, 28] (by decide +kernel) (by decide +kernel)
set_option maxRecDepth 20000 in
theorem gL_build_L_below : GoodIn wsL_build (va_wsS RL 15 yL_below wsL_below) := goodIn_app (goodIn_of _ (by decide +kernel)) ggL_build_L_below
set_option maxRecDepth 20000 in
theorem ggL_build_L_act : GoodIn wsL_build wsL_act := goodIn_ca (goodIn_ca (goodIn_ca (goodIn_r _ [31, 32, 33, 34, 35, 36, 10, 37, 25, 26, 22, 27, 28, 38, 39, 40, 41, 42, 43, 44, 45, 46, 47, 48, 49, 50, 51, 52, 53, 54, 55, 56, 57, 58, 59, 60, 61, 62, 63, 64, 65, 66, 67, 68, 69, 70, 71, 72, 73, 74, 75, 76, 77, 78, 79, 80, 81, 82, 83, 84, 85, 86, 87, 88, 89, 90, 91, 92, 93, 94, 95, 96, 97, 98, 3, 99, 13, 100, 101, 102, 103, 104, 105, 106, 107, 108, 109, 110, 111, 112, 113, 114, 115, 116, 117, 118, 119, 120, 121, 122, 123, 124, 125, 126, 127, 128, 207, 208, 209, 210, 211, 212, 213, 214, 215, 216, 217, 218, 219, 220, 221, 222, 223, 224, 225, 226, 227, 228, 229, 230, 231, 232, 233, 234] rfl (by decide +kernel)) (goodIn_sub (fun _ h => List.mem_cons_of_mem _ (List.mem_append_left _ (List.mem_append_left _ (List.mem_append_right _ h)))) (by decide +kernel))) (goodIn_sub (fun _ h => List.mem_cons_of_mem _ (List.mem_append_left _ (List.mem_append_right _ h))) (by decide +kernel))) (goodIn_sub (fun _ h => List.mem_cons_of_mem _ (List.mem_append_right _ h)) (by decide +kernel))
set_option maxRecDepth 20000 in
theorem gL_build_L_act : GoodIn wsL_build (va_wsS RL 65 yL_act wsL_act) := goodIn_app (goodIn_of _ (by decide +kernel)) ggL_build_L_act
set_option maxRecDepth 20000 in
theorem ggL_build_X3_go : GoodIn wsL_build wsX3_go := goodIn_ca (goodIn_r _ [132, 45, 46, 75, 47, 133, 134, 135, 80, 136, 82, 83, 137, 119, 120, 87, 121, 122, 138, 139, 140, 141, 142, 143, 144, 145, 146, 147, 148, 149, 150, 151, 152, 96, 95, 153, 154, 155, 156, 157, 158, 159, 160, 161, 162, 127, 163, 164, 165, 166, 167, 168, 169, 170, 90, 171, 172, 173, 174, 89, 128, 175, 50, 51, 52, 176, 177, 178, 179, 180, 181, 182, 183, 184, 185, 186, 187, 188, 189, 190, 191, 64, 65, 70, 192, 193, 194, 195, 213, 214, 215, 220, 221, 222, 223, 224, 225, 226, 227, 228, 229, 230, 231, 232, 233, 234, 216, 217, 218, 219] (by decide +kernel) (by decide +kernel)) (goodIn_sub (fun _ h => List.mem_cons_of_mem _ (List.mem_append_left _ (List.mem_append_right _ h))) (by decide +kernel))
set_option maxRecDepth 20000 in
theorem gL_build_X3_go : GoodIn wsL_build (wsV RL 69 RX3 yX3_go wsX3_go) := goodIn_app (goodIn_of _ (by decide +kernel)) ggL_build_X3_go
set_option maxRecDepth 20000 in
theorem ggL_build_X4_go_ : GoodIn wsL_build wsX4_go_ := goodIn_r _ [199, 14, 200, 201, 202, 203, 3, 204, 15, 205, 181, 165, 182, 11, 12, 206, 185, 186, 207, 208, 209, 210, 211, 212] (by decide +kernel) (by decide +kernel)
set_option maxRecDepth 20000 in
theorem gL_build_X4_go_ : GoodIn wsL_build (wsV RL 72 RX4 yX4_go_ wsX4_go_) := goodIn_app (goodIn_of _ (by decide +kernel)) ggL_build_X4_go_
theorem dL_build_0 : decode cL_build 0 = .ok (.new 10, 3) := by decide +kernel
theorem dL_build_3 : decode cL_build 3 = .ok (.dup, 1) := by decide +kernel
theorem dL_build_4 : decode cL_build 4 = .ok (.invokespecial 60, 3) := by decide +kernel
theorem dL_build_7 : decode cL_build 7 = .ok (.astore_n 2, 1) := by decide +kernel
theorem dL_build_8 : decode cL_build 8 = .ok (.iconst 0, 1) := by decide +kernel
theorem dL_build_9 : decode cL_build 9 = .ok (.istore_n 3, 1) := by decide +kernel
theorem dL_build_10 : decode cL_build 10 = .ok (.iload_n 3, 1) := by decide +kernel
theorem dL_build_11 : decode cL_build 11 = .ok (.bipush 26, 2) := by decide +kernel
theorem dL_build_13 : decode cL_build 13 = .ok (.if_icmp .ge 118, 3) := by decide +kernel
theorem dL_build_16 : decode cL_build 16 = .ok (.aload_n 1, 1) := by decide +kernel
theorem dL_build_17 : decode cL_build 17 = .ok (.iload_n 3, 1) := by decide +kernel
theorem dL_build_18 : decode cL_build 18 = .ok (.bipush 16, 2) := by decide +kernel
theorem dL_build_20 : decode cL_build 20 = .ok (.irem, 1) := by decide +kernel
theorem dL_build_21 : decode cL_build 21 = .ok (.invokestatic 61, 3) := by decide +kernel
theorem dL_build_24 : decode cL_build 24 = .ok (.iload_n 3, 1) := by decide +kernel
theorem dL_build_25 : decode cL_build 25 = .ok (.bipush 16, 2) := by decide +kernel
theorem dL_build_27 : decode cL_build 27 = .ok (.idiv, 1) := by decide +kernel
theorem dL_build_28 : decode cL_build 28 = .ok (.iconst 5, 1) := by decide +kernel
theorem dL_build_29 : decode cL_build 29 = .ok (.imul, 1) := by decide +kernel
theorem dL_build_30 : decode cL_build 30 = .ok (.ishr, 1) := by decide +kernel
theorem dL_build_31 : decode cL_build 31 = .ok (.bipush 47, 2) := by decide +kernel
theorem dL_build_33 : decode cL_build 33 = .ok (.iload_n 3, 1) := by decide +kernel
theorem dL_build_34 : decode cL_build 34 = .ok (.imul, 1) := by decide +kernel
theorem dL_build_35 : decode cL_build 35 = .ok (.iadd, 1) := by decide +kernel
theorem dL_build_36 : decode cL_build 36 = .ok (.istore 4, 2) := by decide +kernel
theorem dL_build_38 : decode cL_build 38 = .ok (.iload_n 3, 1) := by decide +kernel
theorem dL_build_39 : decode cL_build 39 = .ok (.bipush 12, 2) := by decide +kernel
theorem dL_build_41 : decode cL_build 41 = .ok (.if_icmp .ge 41, 3) := by decide +kernel
theorem dL_build_44 : decode cL_build 44 = .ok (.iload 4, 2) := by decide +kernel
theorem dL_build_46 : decode cL_build 46 = .ok (.sipush 10000, 3) := by decide +kernel
theorem dL_build_49 : decode cL_build 49 = .ok (.invokestatic 15, 3) := by decide +kernel
theorem dL_build_52 : decode cL_build 52 = .ok (.bipush 8, 2) := by decide +kernel
theorem dL_build_54 : decode cL_build 54 = .ok (.imul, 1) := by decide +kernel
theorem dL_build_55 : decode cL_build 55 = .ok (.iload_n 3, 1) := by decide +kernel
theorem dL_build_56 : decode cL_build 56 = .ok (.iconst 4, 1) := by decide +kernel
theorem dL_build_57 : decode cL_build 57 = .ok (.if_icmp .ge 7, 3) := by decide +kernel
theorem dL_build_60 : decode cL_build 60 = .ok (.iconst 2, 1) := by decide +kernel
theorem dL_build_61 : decode cL_build 61 = .ok (.goto 18, 3) := by decide +kernel
theorem dL_build_64 : decode cL_build 64 = .ok (.iload_n 3, 1) := by decide +kernel
theorem dL_build_65 : decode cL_build 65 = .ok (.bipush 7, 2) := by decide +kernel
theorem dL_build_67 : decode cL_build 67 = .ok (.if_icmp .ge 7, 3) := by decide +kernel
theorem dL_build_70 : decode cL_build 70 = .ok (.iconst 1, 1) := by decide +kernel
theorem dL_build_71 : decode cL_build 71 = .ok (.goto 8, 3) := by decide +kernel
theorem dL_build_74 : decode cL_build 74 = .ok (.iconst 3, 1) := by decide +kernel
theorem dL_build_75 : decode cL_build 75 = .ok (.iload_n 3, 1) := by decide +kernel
theorem dL_build_76 : decode cL_build 76 = .ok (.iconst 4, 1) := by decide +kernel
theorem dL_build_77 : decode cL_build 77 = .ok (.irem, 1) := by decide +kernel
theorem dL_build_78 : decode cL_build 78 = .ok (.iadd, 1) := by decide +kernel
theorem dL_build_79 : decode cL_build 79 = .ok (.iadd, 1) := by decide +kernel
theorem dL_build_80 : decode cL_build 80 = .ok (.istore 4, 2) := by decide +kernel
theorem dL_build_82 : decode cL_build 82 = .ok (.aload_n 0, 1) := by decide +kernel
theorem dL_build_83 : decode cL_build 83 = .ok (.aload_n 2, 1) := by decide +kernel
theorem dL_build_84 : decode cL_build 84 = .ok (.iload 4, 2) := by decide +kernel
theorem dL_build_86 : decode cL_build 86 = .ok (.invokestatic 65, 3) := by decide +kernel
theorem dL_build_89 : decode cL_build 89 = .ok (.ifCond .ne 5, 3) := by decide +kernel
theorem dL_build_92 : decode cL_build 92 = .ok (.aconst_null, 1) := by decide +kernel
theorem dL_build_93 : decode cL_build 93 = .ok (.areturn, 1) := by decide +kernel
theorem dL_build_94 : decode cL_build 94 = .ok (.iload_n 3, 1) := by decide +kernel
theorem dL_build_95 : decode cL_build 95 = .ok (.bipush 9, 2) := by decide +kernel
theorem dL_build_97 : decode cL_build 97 = .ok (.if_icmp .le 28, 3) := by decide +kernel
theorem dL_build_100 : decode cL_build 100 = .ok (.iload 4, 2) := by decide +kernel
theorem dL_build_102 : decode cL_build 102 = .ok (.iconst 4, 1) := by decide +kernel
theorem dL_build_103 : decode cL_build 103 = .ok (.ishr, 1) := by decide +kernel
theorem dL_build_104 : decode cL_build 104 = .ok (.iconst 3, 1) := by decide +kernel
theorem dL_build_105 : decode cL_build 105 = .ok (.invokestatic 15, 3) := by decide +kernel
theorem dL_build_108 : decode cL_build 108 = .ok (.ifCond .ne 17, 3) := by decide +kernel
theorem dL_build_111 : decode cL_build 111 = .ok (.aload_n 0, 1) := by decide +kernel
theorem dL_build_112 : decode cL_build 112 = .ok (.iconst 1, 1) := by decide +kernel
theorem dL_build_113 : decode cL_build 113 = .ok (.invokevirtual 69, 3) := by decide +kernel
theorem dL_build_116 : decode cL_build 116 = .ok (.aload_n 2, 1) := by decide +kernel
theorem dL_build_117 : decode cL_build 117 = .ok (.invokevirtual 72, 3) := by decide +kernel
theorem dL_build_120 : decode cL_build 120 = .ok (.if_icmp .eq 5, 3) := by decide +kernel
theorem dL_build_123 : decode cL_build 123 = .ok (.aconst_null, 1) := by decide +kernel
theorem dL_build_124 : decode cL_build 124 = .ok (.areturn, 1) := by decide +kernel
theorem dL_build_125 : decode cL_build 125 = .ok (.iinc 3 1, 3) := by decide +kernel
theorem dL_build_128 : decode cL_build 128 = .ok (.goto (-118), 3) := by decide +kernel
theorem dL_build_131 : decode cL_build 131 = .ok (.aload_n 2, 1) := by decide +kernel
theorem dL_build_132 : decode cL_build 132 = .ok (.areturn, 1) := by decide +kernel
end
section
set_option maxRecDepth 20000 in
theorem ggL_law_X3_init : GoodIn wsL_law wsX3_init := goodIn_r _ [13, 14, 15, 16, 17, 18, 19, 20, 21, 22, 23, 24, 25, 26, 27, 28, 5, 29, 30, 31, 32, 33, 34, 35, 36, 37, 38, 39, 40, 41, 42, 43, 44, 45, 46, 47, 48, 49, 50, 51, 52, 53, 54, 55, 56, 57, 365, 366, 367, 368, 356, 357, 358, 369, 370, 371, 372, 373, 374, 375, 376, 377, 378, 379, 380, 381, 382, 383] (by decide +kernel) (by decide +kernel)
set_option maxRecDepth 20000 in
theorem gL_law_X3_init : GoodIn wsL_law (wsX3_init) := ggL_law_X3_init
set_option maxRecDepth 20000 in
theorem ggL_law_L_build : GoodIn wsL_law wsL_build := goodIn_ca (goodIn_ca (goodIn_ca (goodIn_r _ [61, 62, 63, 64, 65, 66, 67, 68, 15, 16, 5, 69, 70, 71, 72, 73, 74, 75, 76, 77, 78, 79, 60, 80, 81, 82, 83, 84, 85, 86, 87, 88, 89, 3, 90, 91, 10, 92, 93, 94, 95, 2, 96, 97, 98, 99, 100, 20, 101, 102, 103, 19, 104, 105, 106, 107, 108, 109, 110, 111, 112, 113, 114, 115, 32, 30, 116, 117, 118, 119, 31, 120, 121, 122, 123, 24, 124, 125, 126, 127, 23, 128, 39, 38, 129, 130, 131, 42, 132, 50, 48, 133, 134, 135, 136, 46, 47, 137, 138, 139, 140, 141, 142, 143, 144, 145, 146, 147, 148, 149, 150, 151, 152, 153, 154, 155, 156, 157, 158, 159, 160, 161, 54, 162, 163, 164, 165, 52, 53, 166, 167, 168, 169, 170, 171, 172, 173, 174, 175, 176, 177, 178, 40, 179, 180, 181, 182, 49, 55, 183, 184, 185, 186, 187, 188, 189, 190, 191, 192, 193, 194, 51, 56, 195, 196, 8, 197, 198, 199, 200, 201, 202, 203, 204, 205, 206, 207, 208, 209, 210, 211, 7, 9, 212, 213, 214, 215, 57, 216, 217, 218, 219, 220, 221, 222, 223, 224, 225, 226, 227, 228, 229, 230, 231, 232, 233, 234, 359, 360, 361, 362, 363, 364, 356, 357, 358, 365, 366, 367, 368, 369, 370, 371, 372, 373, 374, 375, 376, 377, 378, 379, 380, 381, 382, 383] rfl (by decide +kernel)) (goodIn_sub (fun _ h => List.mem_append_left _ (List.mem_append_left _ (List.mem_append_right _ h))) (by decide +kernel))) (goodIn_sub (fun _ h => List.mem_append_left _ (List.mem_append_right _ h)) (by decide +kernel))) (goodIn_sub (fun _ h => List.mem_append_right _ h) (by decide +kernel))
set_option maxRecDepth 20000 in
theorem gL_law_L_build : GoodIn wsL_law (va_wsS RL 76 yL_build wsL_build) := goodIn_app (goodIn_of _ (by decide +kernel)) ggL_law_L_build
set_option maxRecDepth 20000 in
theorem ggL_law_L_cell : GoodIn wsL_law wsL_cell := goodIn_r _ [80, 81] (by decide +kernel) (by decide +kernel)
set_option maxRecDepth 20000 in
theorem gL_law_L_cell : GoodIn wsL_law (va_wsS RL 61 yL_cell wsL_cell) := goodIn_app (goodIn_of _ (by decide +kernel)) ggL_law_L_cell
set_option maxRecDepth 20000 in
theorem ggL_law_L_below : GoodIn wsL_law wsL_below := goodIn_r _ [84, 85] (by decide +kernel) (by decide +kernel)
set_option maxRecDepth 20000 in
theorem gL_law_L_below : GoodIn wsL_law (va_wsS RL 15 yL_below wsL_below) := goodIn_app (goodIn_of _ (by decide +kernel)) ggL_law_L_below
set_option maxRecDepth 20000 in
theorem ggL_law_L_act : GoodIn wsL_law wsL_act := goodIn_ca (goodIn_ca (goodIn_ca (goodIn_r _ [88, 89, 3, 90, 91, 10, 5, 92, 82, 83, 60, 84, 85, 93, 94, 95, 2, 96, 97, 98, 99, 100, 20, 101, 102, 103, 19, 104, 105, 106, 107, 108, 109, 110, 111, 112, 113, 114, 115, 32, 30, 116, 117, 118, 119, 31, 120, 121, 122, 123, 24, 124, 125, 126, 127, 23, 128, 39, 38, 129, 130, 131, 42, 132, 50, 48, 133, 134, 135, 136, 46, 47, 137, 138, 64, 139, 71, 140, 141, 142, 143, 144, 145, 146, 147, 148, 149, 150, 151, 152, 153, 154, 155, 156, 157, 158, 159, 160, 161, 54, 162, 163, 164, 165, 52, 53, 359, 360, 361, 362, 363, 364, 356, 357, 358, 365, 366, 367, 368, 369, 370, 371, 372, 373, 374, 375, 376, 377, 378, 379, 380, 381, 382, 383] rfl (by decide +kernel)) (goodIn_sub (fun _ h => List.mem_append_left _ (List.mem_append_left _ (List.mem_append_right _ h))) (by decide +kernel))) (goodIn_sub (fun _ h => List.mem_append_left _ (List.mem_append_right _ h)) (by decide +kernel))) (goodIn_sub (fun _ h => List.mem_append_right _ h) (by decide +kernel))
set_option maxRecDepth 20000 in
theorem gL_law_L_act : GoodIn wsL_law (va_wsS RL 65 yL_act wsL_act) := goodIn_app (goodIn_of _ (by decide +kernel)) ggL_law_L_act
set_option maxRecDepth 20000 in
theorem ggL_law_X3_boat : GoodIn wsL_law wsX3_boat := goodIn_ca (goodIn_r _ [238, 97, 98, 24, 144, 146, 147, 148, 23, 149, 39, 239, 240, 241, 42, 242, 49, 50, 51, 52, 53, 54, 56, 57, 243, 244, 245, 246, 55, 356, 357, 358, 369, 370, 371, 372, 373, 374, 375, 376, 377, 378, 379, 380, 381, 382, 383] (by decide +kernel) (by decide +kernel)) (goodIn_sub (fun _ h => List.mem_append_left _ (List.mem_append_left _ (List.mem_append_right _ h))) (by decide +kernel))
set_option maxRecDepth 20000 in
theorem gL_law_X3_boat : GoodIn wsL_law (wsV RL 81 RX3 yX3_boat wsX3_boat) := goodIn_app (goodIn_of _ (by decide +kernel)) ggL_law_X3_boat
set_option maxRecDepth 20000 in
theorem ggL_law_X3_arrives : GoodIn wsL_law wsX3_arrives := goodIn_ca (goodIn_r _ [250, 97, 98, 24, 25, 144, 20, 251, 146, 147, 148, 23, 149, 39, 252, 253, 254, 42, 255, 46, 256, 257, 258, 259, 47, 48, 49, 50, 51, 52, 53, 54, 55, 56, 57, 158, 159, 160, 161, 260, 180, 181, 182, 183, 184, 185, 186, 187, 188, 189, 190, 191, 192, 193, 194, 195, 196, 8, 197, 198, 199, 200, 201, 202, 203, 204, 205, 206, 103, 19, 104, 207, 208, 209, 210, 211, 7, 9, 212, 213, 214, 215, 216, 217, 218, 219, 32, 30, 31, 220, 221, 222, 223, 356, 357, 358, 369, 370, 371, 372, 373, 374, 375, 376, 377, 378, 379, 380, 381, 382, 383, 365, 366, 367, 368] (by decide +kernel) (by decide +kernel)) (goodIn_sub (fun _ h => List.mem_append_left _ (List.mem_append_left _ (List.mem_append_right _ h))) (by decide +kernel))
set_option maxRecDepth 20000 in
theorem gL_law_X3_arrives : GoodIn wsL_law (wsV RL 84 RX3 yX3_arrives wsX3_arrives) := goodIn_app (goodIn_of _ (by decide +kernel)) ggL_law_X3_arrives
set_option maxRecDepth 20000 in
theorem ggL_law_X3_digest : GoodIn wsL_law wsX3_digest := goodIn_r _ [264, 265, 266, 24, 20, 101, 111, 267, 268, 124, 144, 269, 270, 271, 2, 272, 251, 170, 171, 172, 23, 173, 39, 38, 174, 159, 160, 42, 161, 54, 273, 274, 275, 276, 277, 278, 279, 280, 281, 282, 283, 284, 285, 286, 287, 244, 245, 246, 55, 53, 288, 289, 290, 291, 145, 292, 239, 240, 241, 242, 49, 50, 51, 52, 56, 57, 243, 293, 294, 295, 296, 297, 298, 299, 300, 356, 357, 358, 365, 366, 367, 368, 369, 370, 371, 372, 373, 374, 375, 376, 377, 378, 379, 380, 381, 382, 383] (by decide +kernel) (by decide +kernel)
set_option maxRecDepth 20000 in
theorem gL_law_X3_digest : GoodIn wsL_law (wsV RL 87 RX3 yX3_digest wsX3_digest) := goodIn_app (goodIn_of _ (by decide +kernel)) ggL_law_X3_digest
set_option maxRecDepth 20000 in
theorem ggL_law_X3_foresee : GoodIn wsL_law wsX3_foresee := goodIn_ca (goodIn_ca (goodIn_r _ [304, 99, 100, 97, 98, 25, 24, 20, 305, 306, 307, 23, 308, 39, 40, 38, 309, 253, 254, 42, 255, 46, 256, 257, 258, 259, 47, 48, 49, 50, 51, 52, 53, 54, 55, 56, 57, 175, 176, 177, 178, 179, 180, 181, 182, 183, 184, 185, 186, 187, 188, 189, 190, 191, 192, 193, 194, 195, 196, 8, 197, 198, 199, 200, 201, 202, 203, 204, 205, 206, 103, 19, 104, 207, 208, 209, 210, 211, 7, 9, 212, 213, 214, 215, 216, 217, 218, 219, 32, 30, 31, 220, 221, 222, 223, 269, 270, 271, 2, 272, 251, 124, 111, 170, 171, 172, 173, 174, 159, 160, 161, 273, 274, 275, 276, 277, 278, 279, 280, 281, 282, 283, 284, 285, 286, 287, 244, 245, 246, 356, 357, 358, 369, 370, 371, 372, 373, 374, 375, 376, 377, 378, 379, 380, 381, 382, 383, 365, 366, 367, 368] (by decide +kernel) (by decide +kernel)) (goodIn_sub (fun _ h => List.mem_append_left _ (List.mem_append_right _ h)) (by decide +kernel))) (goodIn_sub (fun _ h => List.mem_append_left _ (List.mem_append_left _ (List.mem_append_right _ h))) (by decide +kernel))
set_option maxRecDepth 20000 in
theorem gL_law_X3_foresee : GoodIn wsL_law (wsV RL 91 RX3 yX3_foresee wsX3_foresee) := goodIn_app (goodIn_of _ (by decide +kernel)) ggL_law_X3_foresee
set_option maxRecDepth 20000 in
theorem ggL_law_X3_count : GoodIn wsL_law wsX3_count := goodIn_ca (goodIn_r _ [313, 97, 98, 24, 269, 270, 271, 2, 272, 251, 124, 20, 111, 170, 171, 172, 23, 173, 39, 38, 174, 159, 160, 42, 161, 54, 273, 274, 275, 276, 277, 278, 279, 280, 281, 282, 283, 284, 285, 286, 287, 244, 245, 246, 55, 53, 356, 357, 358, 369, 370, 371, 365, 366, 367, 368, 372, 373, 374, 375, 376, 377, 378, 379, 380, 381, 382, 383] (by decide +kernel) (by decide +kernel)) (goodIn_sub (fun _ h => List.mem_append_left _ (List.mem_append_left _ (List.mem_append_right _ h))) (by decide +kernel))
set_option maxRecDepth 20000 in
theorem gL_law_X3_count : GoodIn wsL_law (wsV RL 94 RX3 yX3_count wsX3_count) := goodIn_app (goodIn_of _ (by decide +kernel)) ggL_law_X3_count
set_option maxRecDepth 20000 in
theorem ggL_law_X3_go : GoodIn wsL_law wsX3_go := goodIn_ca (goodIn_r _ [169, 99, 100, 24, 20, 170, 171, 172, 23, 173, 39, 38, 174, 159, 160, 42, 161, 54, 175, 176, 177, 178, 40, 179, 180, 181, 182, 49, 55, 183, 184, 185, 186, 47, 46, 187, 188, 189, 190, 191, 192, 193, 194, 51, 56, 52, 195, 196, 8, 197, 198, 199, 200, 201, 48, 202, 203, 204, 205, 50, 53, 206, 103, 19, 104, 207, 208, 209, 210, 211, 7, 9, 212, 213, 214, 215, 57, 216, 217, 218, 219, 32, 30, 31, 220, 221, 222, 223, 356, 357, 358, 369, 370, 371, 372, 373, 374, 375, 376, 377, 378, 379, 380, 381, 382, 383, 365, 366, 367, 368] (by decide +kernel) (by decide +kernel)) (goodIn_sub (fun _ h => List.mem_append_left _ (List.mem_append_right _ h)) (by decide +kernel))
set_option maxRecDepth 20000 in
theorem gL_law_X3_go : GoodIn wsL_law (wsV RL 69 RX3 yX3_go wsX3_go) := goodIn_app (goodIn_of _ (by decide +kernel)) ggL_law_X3_go
set_option maxRecDepth 20000 in
theorem ggL_law_X4_go_ : GoodIn wsL_law wsX4_go_ := goodIn_r _ [227, 72, 228, 229, 230, 231, 64, 232, 73, 233, 7, 8, 9, 69, 70, 234, 214, 215, 359, 360, 361, 362, 363, 364] (by decide +kernel) (by decide +kernel)
set_option maxRecDepth 20000 in
theorem gL_law_X4_go_ : GoodIn wsL_law (wsV RL 72 RX4 yX4_go_ wsX4_go_) := goodIn_app (goodIn_of _ (by decide +kernel)) ggL_law_X4_go_
set_option maxRecDepth 20000 in
theorem ggL_law_X3_rank : GoodIn wsL_law wsX3_rank := goodIn_ca (goodIn_r _ [317, 97, 98, 24, 144, 146, 147, 148, 23, 149, 39, 293, 294, 295, 296, 38, 297, 298, 299, 42, 300, 54, 49, 243, 244, 245, 246, 55, 53, 356, 357, 358, 369, 370, 371, 372, 373, 374, 375, 376, 377, 378, 379, 380, 381, 382, 383] (by decide +kernel) (by decide +kernel)) (goodIn_sub (fun _ h => List.mem_append_left _ (List.mem_append_left _ (List.mem_append_right _ h))) (by decide +kernel))
set_option maxRecDepth 20000 in
theorem gL_law_X3_rank : GoodIn wsL_law (wsV RL 102 RX3 yX3_rank wsX3_rank) := goodIn_app (goodIn_of _ (by decide +kernel)) ggL_law_X3_rank
set_option maxRecDepth 20000 in
theorem ggL_law_X3_mean : GoodIn wsL_law wsX3_mean := goodIn_r _ [321, 24, 124, 322, 323, 324, 23, 325, 39, 38, 282, 356, 357, 358, 369, 370, 371, 372, 373, 374, 375, 376, 377, 378, 379, 380, 381, 382, 383] (by decide +kernel) (by decide +kernel)
set_option maxRecDepth 20000 in
theorem gL_law_X3_mean : GoodIn wsL_law (wsV RL 105 RX3 yX3_mean wsX3_mean) := goodIn_app (goodIn_of _ (by decide +kernel)) ggL_law_X3_mean
set_option maxRecDepth 20000 in
theorem ggL_law_X3_advise : GoodIn wsL_law wsX3_advise := goodIn_ca (goodIn_ca (goodIn_r _ [329, 97, 98, 99, 100, 24, 146, 147, 148, 23, 149, 39, 330, 331, 332, 2, 333, 25, 144, 20, 251, 334, 252, 253, 254, 42, 255, 46, 256, 257, 258, 259, 47, 48, 49, 50, 51, 52, 53, 54, 55, 56, 57, 153, 134, 135, 136, 260, 180, 181, 182, 183, 184, 185, 186, 187, 188, 189, 190, 191, 192, 193, 194, 195, 196, 8, 197, 198, 199, 200, 201, 202, 203, 204, 205, 206, 103, 19, 104, 207, 208, 209, 210, 211, 7, 9, 212, 213, 214, 215, 216, 217, 218, 219, 32, 30, 31, 220, 221, 222, 223, 356, 357, 358, 369, 370, 371, 372, 373, 374, 375, 376, 377, 378, 379, 380, 381, 382, 383, 365, 366, 367, 368] (by decide +kernel) (by decide +kernel)) (goodIn_sub (fun _ h => List.mem_append_left _ (List.mem_append_left _ (List.mem_append_right _ h))) (by decide +kernel))) (goodIn_sub (fun _ h => List.mem_append_left _ (List.mem_append_right _ h)) (by decide +kernel))
set_option maxRecDepth 20000 in
theorem gL_law_X3_advise : GoodIn wsL_law (wsV RL 109 RX3 yX3_advise wsX3_advise) := goodIn_app (goodIn_of _ (by decide +kernel)) ggL_law_X3_advise
set_option maxRecDepth 20000 in
theorem ggL_law_X4_isSame : GoodIn wsL_law wsX4_isSame := goodIn_ca (goodIn_r _ [338, 72, 5, 339, 340, 341, 64, 342, 343, 236, 237, 2, 238, 97, 98, 24, 144, 146, 147, 148, 23, 149, 39, 239, 240, 241, 42, 242, 49, 50, 51, 52, 53, 54, 56, 57, 243, 244, 245, 246, 55, 344, 315, 316, 317, 293, 294, 295, 296, 38, 297, 298, 299, 300, 345, 346, 347, 348, 349, 350, 351, 352, 228, 353, 354, 311, 312, 313, 269, 270, 271, 272, 251, 124, 20, 111, 170, 171, 172, 173, 174, 159, 160, 161, 273, 274, 275, 276, 277, 278, 279, 280, 281, 282, 283, 284, 285, 286, 287, 355, 319, 320, 321, 322, 323, 324, 325, 359, 360, 361, 362, 363, 364, 356, 357, 358, 369, 370, 371, 372, 373, 374, 375, 376, 377, 378, 379, 380, 381, 382, 383, 365, 366, 367, 368] (by decide +kernel) (by decide +kernel)) (goodIn_sub (fun _ h => List.mem_append_left _ (List.mem_append_left _ (List.mem_append_right _ h))) (by decide +kernel))
set_option maxRecDepth 20000 in
theorem gL_law_X4_isSame : GoodIn wsL_law (wsV RL 112 RX4 yX4_isSame wsX4_isSame) := goodIn_app (goodIn_of _ (by decide +kernel)) ggL_law_X4_isSame
end
section
theorem dL_law_0 : decode cL_law 0 = .ok (.new 26, 3) := by decide +kernel
theorem dL_law_3 : decode cL_law 3 = .ok (.dup, 1) := by decide +kernel
theorem dL_law_4 : decode cL_law 4 = .ok (.invokespecial 75, 3) := by decide +kernel
theorem dL_law_7 : decode cL_law 7 = .ok (.astore_n 1, 1) := by decide +kernel
theorem dL_law_8 : decode cL_law 8 = .ok (.aload_n 1, 1) := by decide +kernel
theorem dL_law_9 : decode cL_law 9 = .ok (.aload_n 0, 1) := by decide +kernel
theorem dL_law_10 : decode cL_law 10 = .ok (.invokestatic 76, 3) := by decide +kernel
theorem dL_law_13 : decode cL_law 13 = .ok (.astore_n 2, 1) := by decide +kernel
theorem dL_law_14 : decode cL_law 14 = .ok (.aload_n 2, 1) := by decide +kernel
theorem dL_law_15 : decode cL_law 15 = .ok (.ifnonnull 5, 3) := by decide +kernel
theorem dL_law_18 : decode cL_law 18 = .ok (.iconst 0, 1) := by decide +kernel
theorem dL_law_19 : decode cL_law 19 = .ok (.ireturn, 1) := by decide +kernel
theorem dL_law_20 : decode cL_law 20 = .ok (.iconst 0, 1) := by decide +kernel
theorem dL_law_21 : decode cL_law 21 = .ok (.istore_n 3, 1) := by decide +kernel
theorem dL_law_22 : decode cL_law 22 = .ok (.iload_n 3, 1) := by decide +kernel
theorem dL_law_23 : decode cL_law 23 = .ok (.bipush 70, 2) := by decide +kernel
theorem dL_law_25 : decode cL_law 25 = .ok (.if_icmp .ge 1202, 3) := by decide +kernel
theorem dL_law_28 : decode cL_law 28 = .ok (.aload_n 0, 1) := by decide +kernel
theorem dL_law_29 : decode cL_law 29 = .ok (.iload_n 3, 1) := by decide +kernel
theorem dL_law_30 : decode cL_law 30 = .ok (.bipush 16, 2) := by decide +kernel
theorem dL_law_32 : decode cL_law 32 = .ok (.irem, 1) := by decide +kernel
theorem dL_law_33 : decode cL_law 33 = .ok (.invokestatic 61, 3) := by decide +kernel
theorem dL_law_36 : decode cL_law 36 = .ok (.iload_n 3, 1) := by decide +kernel
theorem dL_law_37 : decode cL_law 37 = .ok (.bipush 16, 2) := by decide +kernel
theorem dL_law_39 : decode cL_law 39 = .ok (.idiv, 1) := by decide +kernel
theorem dL_law_40 : decode cL_law 40 = .ok (.iconst 4, 1) := by decide +kernel
theorem dL_law_41 : decode cL_law 41 = .ok (.imul, 1) := by decide +kernel
theorem dL_law_42 : decode cL_law 42 = .ok (.ishr, 1) := by decide +kernel
theorem dL_law_43 : decode cL_law 43 = .ok (.bipush 61, 2) := by decide +kernel
theorem dL_law_45 : decode cL_law 45 = .ok (.iload_n 3, 1) := by decide +kernel
theorem dL_law_46 : decode cL_law 46 = .ok (.imul, 1) := by decide +kernel
theorem dL_law_47 : decode cL_law 47 = .ok (.iadd, 1) := by decide +kernel
theorem dL_law_48 : decode cL_law 48 = .ok (.istore 4, 2) := by decide +kernel
theorem dL_law_50 : decode cL_law 50 = .ok (.iload 4, 2) := by decide +kernel
theorem dL_law_52 : decode cL_law 52 = .ok (.iconst 4, 1) := by decide +kernel
theorem dL_law_53 : decode cL_law 53 = .ok (.ishr, 1) := by decide +kernel
theorem dL_law_54 : decode cL_law 54 = .ok (.iconst 3, 1) := by decide +kernel
theorem dL_law_55 : decode cL_law 55 = .ok (.invokestatic 15, 3) := by decide +kernel
theorem dL_law_58 : decode cL_law 58 = .ok (.ifCond .ne 15, 3) := by decide +kernel
theorem dL_law_61 : decode cL_law 61 = .ok (.aload_n 1, 1) := by decide +kernel
theorem dL_law_62 : decode cL_law 62 = .ok (.aload_n 2, 1) := by decide +kernel
theorem dL_law_63 : decode cL_law 63 = .ok (.iload 4, 2) := by decide +kernel
theorem dL_law_65 : decode cL_law 65 = .ok (.invokestatic 65, 3) := by decide +kernel
theorem dL_law_68 : decode cL_law 68 = .ok (.ifCond .ne 5, 3) := by decide +kernel
theorem dL_law_71 : decode cL_law 71 = .ok (.iconst 0, 1) := by decide +kernel
theorem dL_law_72 : decode cL_law 72 = .ok (.ireturn, 1) := by decide +kernel
theorem dL_law_73 : decode cL_law 73 = .ok (.aload_n 2, 1) := by decide +kernel
theorem dL_law_74 : decode cL_law 74 = .ok (.getfield 9, 3) := by decide +kernel
theorem dL_law_77 : decode cL_law 77 = .ok (.arraylength, 1) := by decide +kernel
theorem dL_law_78 : decode cL_law 78 = .ok (.istore 5, 2) := by decide +kernel
theorem dL_law_80 : decode cL_law 80 = .ok (.iload 5, 2) := by decide +kernel
theorem dL_law_82 : decode cL_law 82 = .ok (.bipush 9, 2) := by decide +kernel
theorem dL_law_84 : decode cL_law 84 = .ok (.multianewarray 80 2, 4) := by decide +kernel
theorem dL_law_88 : decode cL_law 88 = .ok (.astore 6, 2) := by decide +kernel
theorem dL_law_90 : decode cL_law 90 = .ok (.iload 5, 2) := by decide +kernel
theorem dL_law_92 : decode cL_law 92 = .ok (.newarray .int, 2) := by decide +kernel
theorem dL_law_94 : decode cL_law 94 = .ok (.astore 7, 2) := by decide +kernel
theorem dL_law_96 : decode cL_law 96 = .ok (.iconst 0, 1) := by decide +kernel
theorem dL_law_97 : decode cL_law 97 = .ok (.istore 8, 2) := by decide +kernel
theorem dL_law_99 : decode cL_law 99 = .ok (.iload 8, 2) := by decide +kernel
theorem dL_law_101 : decode cL_law 101 = .ok (.iload 5, 2) := by decide +kernel
theorem dL_law_103 : decode cL_law 103 = .ok (.if_icmp .ge 52, 3) := by decide +kernel
theorem dL_law_106 : decode cL_law 106 = .ok (.iconst 0, 1) := by decide +kernel
theorem dL_law_107 : decode cL_law 107 = .ok (.istore 9, 2) := by decide +kernel
theorem dL_law_109 : decode cL_law 109 = .ok (.iload 9, 2) := by decide +kernel
theorem dL_law_111 : decode cL_law 111 = .ok (.bipush 9, 2) := by decide +kernel
theorem dL_law_113 : decode cL_law 113 = .ok (.if_icmp .ge 25, 3) := by decide +kernel
theorem dL_law_116 : decode cL_law 116 = .ok (.aload 6, 2) := by decide +kernel
theorem dL_law_118 : decode cL_law 118 = .ok (.iload 8, 2) := by decide +kernel
theorem dL_law_120 : decode cL_law 120 = .ok (.aaload, 1) := by decide +kernel
theorem dL_law_121 : decode cL_law 121 = .ok (.iload 9, 2) := by decide +kernel
theorem dL_law_123 : decode cL_law 123 = .ok (.aload_n 1, 1) := by decide +kernel
theorem dL_law_124 : decode cL_law 124 = .ok (.iload 8, 2) := by decide +kernel
theorem dL_law_126 : decode cL_law 126 = .ok (.iload 9, 2) := by decide +kernel
theorem dL_law_128 : decode cL_law 128 = .ok (.invokevirtual 81, 3) := by decide +kernel
theorem dL_law_131 : decode cL_law 131 = .ok (.iastore, 1) := by decide +kernel
theorem dL_law_132 : decode cL_law 132 = .ok (.iinc 9 1, 3) := by decide +kernel
theorem dL_law_135 : decode cL_law 135 = .ok (.goto (-26), 3) := by decide +kernel
theorem dL_law_138 : decode cL_law 138 = .ok (.aload 7, 2) := by decide +kernel
theorem dL_law_140 : decode cL_law 140 = .ok (.iload 8, 2) := by decide +kernel
theorem dL_law_142 : decode cL_law 142 = .ok (.aload_n 1, 1) := by decide +kernel
theorem dL_law_143 : decode cL_law 143 = .ok (.iload 8, 2) := by decide +kernel
theorem dL_law_145 : decode cL_law 145 = .ok (.invokevirtual 84, 3) := by decide +kernel
theorem dL_law_148 : decode cL_law 148 = .ok (.iastore, 1) := by decide +kernel
theorem dL_law_149 : decode cL_law 149 = .ok (.iinc 8 1, 3) := by decide +kernel
theorem dL_law_152 : decode cL_law 152 = .ok (.goto (-53), 3) := by decide +kernel
theorem dL_law_155 : decode cL_law 155 = .ok (.aload_n 1, 1) := by decide +kernel
theorem dL_law_156 : decode cL_law 156 = .ok (.invokevirtual 87, 3) := by decide +kernel
theorem dL_law_159 : decode cL_law 159 = .ok (.lstore 8, 2) := by decide +kernel
theorem dL_law_161 : decode cL_law 161 = .ok (.bipush 7, 2) := by decide +kernel
theorem dL_law_163 : decode cL_law 163 = .ok (.newarray .int, 2) := by decide +kernel
theorem dL_law_165 : decode cL_law 165 = .ok (.astore 10, 2) := by decide +kernel
theorem dL_law_167 : decode cL_law 167 = .ok (.iconst 3, 1) := by decide +kernel
theorem dL_law_168 : decode cL_law 168 = .ok (.istore 11, 2) := by decide +kernel
theorem dL_law_170 : decode cL_law 170 = .ok (.iload 11, 2) := by decide +kernel
theorem dL_law_172 : decode cL_law 172 = .ok (.bipush 7, 2) := by decide +kernel
theorem dL_law_174 : decode cL_law 174 = .ok (.if_icmp .ge 21, 3) := by decide +kernel
theorem dL_law_177 : decode cL_law 177 = .ok (.aload 10, 2) := by decide +kernel
theorem dL_law_179 : decode cL_law 179 = .ok (.iload 11, 2) := by decide +kernel
theorem dL_law_181 : decode cL_law 181 = .ok (.aload_n 1, 1) := by decide +kernel
theorem dL_law_182 : decode cL_law 182 = .ok (.iconst 1, 1) := by decide +kernel
theorem dL_law_183 : decode cL_law 183 = .ok (.iload 11, 2) := by decide +kernel
theorem dL_law_185 : decode cL_law 185 = .ok (.invokevirtual 91, 3) := by decide +kernel
theorem dL_law_188 : decode cL_law 188 = .ok (.iastore, 1) := by decide +kernel
theorem dL_law_189 : decode cL_law 189 = .ok (.iinc 11 1, 3) := by decide +kernel
theorem dL_law_192 : decode cL_law 192 = .ok (.goto (-22), 3) := by decide +kernel
theorem dL_law_195 : decode cL_law 195 = .ok (.aload_n 1, 1) := by decide +kernel
theorem dL_law_196 : decode cL_law 196 = .ok (.iconst 0, 1) := by decide +kernel
theorem dL_law_197 : decode cL_law 197 = .ok (.invokevirtual 94, 3) := by decide +kernel
theorem dL_law_200 : decode cL_law 200 = .ok (.istore 11, 2) := by decide +kernel
theorem dL_law_202 : decode cL_law 202 = .ok (.aload_n 1, 1) := by decide +kernel
theorem dL_law_203 : decode cL_law 203 = .ok (.iconst 3, 1) := by decide +kernel
theorem dL_law_204 : decode cL_law 204 = .ok (.invokevirtual 94, 3) := by decide +kernel
theorem dL_law_207 : decode cL_law 207 = .ok (.istore 12, 2) := by decide +kernel
theorem dL_law_209 : decode cL_law 209 = .ok (.aload_n 1, 1) := by decide +kernel
theorem dL_law_210 : decode cL_law 210 = .ok (.invokevirtual 87, 3) := by decide +kernel
theorem dL_law_213 : decode cL_law 213 = .ok (.lload 8, 2) := by decide +kernel
theorem dL_law_215 : decode cL_law 215 = .ok (.lcmp, 1) := by decide +kernel
theorem dL_law_216 : decode cL_law 216 = .ok (.ifCond .eq 5, 3) := by decide +kernel
theorem dL_law_219 : decode cL_law 219 = .ok (.iconst 0, 1) := by decide +kernel
theorem dL_law_220 : decode cL_law 220 = .ok (.ireturn, 1) := by decide +kernel
theorem dL_law_221 : decode cL_law 221 = .ok (.aload_n 1, 1) := by decide +kernel
theorem dL_law_222 : decode cL_law 222 = .ok (.iconst 1, 1) := by decide +kernel
theorem dL_law_223 : decode cL_law 223 = .ok (.invokevirtual 69, 3) := by decide +kernel
theorem dL_law_226 : decode cL_law 226 = .ok (.istore 13, 2) := by decide +kernel
theorem dL_law_228 : decode cL_law 228 = .ok (.aload_n 2, 1) := by decide +kernel
theorem dL_law_229 : decode cL_law 229 = .ok (.invokevirtual 72, 3) := by decide +kernel
theorem dL_law_232 : decode cL_law 232 = .ok (.pop, 1) := by decide +kernel
theorem dL_law_233 : decode cL_law 233 = .ok (.aload_n 1, 1) := by decide +kernel
theorem dL_law_234 : decode cL_law 234 = .ok (.iconst 0, 1) := by decide +kernel
theorem dL_law_235 : decode cL_law 235 = .ok (.invokevirtual 94, 3) := by decide +kernel
theorem dL_law_238 : decode cL_law 238 = .ok (.iload 11, 2) := by decide +kernel
theorem dL_law_240 : decode cL_law 240 = .ok (.iconst 1, 1) := by decide +kernel
theorem dL_law_241 : decode cL_law 241 = .ok (.iadd, 1) := by decide +kernel
theorem dL_law_242 : decode cL_law 242 = .ok (.if_icmp .ne 16, 3) := by decide +kernel
theorem dL_law_245 : decode cL_law 245 = .ok (.aload_n 1, 1) := by decide +kernel
theorem dL_law_246 : decode cL_law 246 = .ok (.iconst 3, 1) := by decide +kernel
theorem dL_law_247 : decode cL_law 247 = .ok (.invokevirtual 94, 3) := by decide +kernel
theorem dL_law_250 : decode cL_law 250 = .ok (.iload 12, 2) := by decide +kernel
theorem dL_law_252 : decode cL_law 252 = .ok (.iload 13, 2) := by decide +kernel
theorem dL_law_254 : decode cL_law 254 = .ok (.iadd, 1) := by decide +kernel
theorem dL_law_255 : decode cL_law 255 = .ok (.if_icmp .eq 5, 3) := by decide +kernel
theorem dL_law_258 : decode cL_law 258 = .ok (.iconst 0, 1) := by decide +kernel
theorem dL_law_259 : decode cL_law 259 = .ok (.ireturn, 1) := by decide +kernel
theorem dL_law_260 : decode cL_law 260 = .ok (.iconst 3, 1) := by decide +kernel
theorem dL_law_261 : decode cL_law 261 = .ok (.istore 14, 2) := by decide +kernel
theorem dL_law_263 : decode cL_law 263 = .ok (.iload 14, 2) := by decide +kernel
theorem dL_law_265 : decode cL_law 265 = .ok (.bipush 7, 2) := by decide +kernel
theorem dL_law_267 : decode cL_law 267 = .ok (.if_icmp .ge 25, 3) := by decide +kernel
theorem dL_law_270 : decode cL_law 270 = .ok (.aload_n 1, 1) := by decide +kernel
theorem dL_law_271 : decode cL_law 271 = .ok (.iload 14, 2) := by decide +kernel
theorem dL_law_273 : decode cL_law 273 = .ok (.invokevirtual 94, 3) := by decide +kernel
theorem dL_law_276 : decode cL_law 276 = .ok (.aload 10, 2) := by decide +kernel
theorem dL_law_278 : decode cL_law 278 = .ok (.iload 14, 2) := by decide +kernel
theorem dL_law_280 : decode cL_law 280 = .ok (.iaload, 1) := by decide +kernel
theorem dL_law_281 : decode cL_law 281 = .ok (.if_icmp .eq 5, 3) := by decide +kernel
theorem dL_law_284 : decode cL_law 284 = .ok (.iconst 0, 1) := by decide +kernel
theorem dL_law_285 : decode cL_law 285 = .ok (.ireturn, 1) := by decide +kernel
theorem dL_law_286 : decode cL_law 286 = .ok (.iinc 14 1, 3) := by decide +kernel
theorem dL_law_289 : decode cL_law 289 = .ok (.goto (-26), 3) := by decide +kernel
theorem dL_law_292 : decode cL_law 292 = .ok (.iconst 0, 1) := by decide +kernel
theorem dL_law_293 : decode cL_law 293 = .ok (.istore 14, 2) := by decide +kernel
theorem dL_law_295 : decode cL_law 295 = .ok (.iconst 0, 1) := by decide +kernel
theorem dL_law_296 : decode cL_law 296 = .ok (.istore 15, 2) := by decide +kernel
theorem dL_law_298 : decode cL_law 298 = .ok (.iconst 0, 1) := by decide +kernel
theorem dL_law_299 : decode cL_law 299 = .ok (.istore 16, 2) := by decide +kernel
theorem dL_law_301 : decode cL_law 301 = .ok (.iload 16, 2) := by decide +kernel
theorem dL_law_303 : decode cL_law 303 = .ok (.iload 5, 2) := by decide +kernel
theorem dL_law_305 : decode cL_law 305 = .ok (.if_icmp .ge 712, 3) := by decide +kernel
theorem dL_law_308 : decode cL_law 308 = .ok (.bipush 9, 2) := by decide +kernel
theorem dL_law_310 : decode cL_law 310 = .ok (.newarray .int, 2) := by decide +kernel
theorem dL_law_312 : decode cL_law 312 = .ok (.astore 17, 2) := by decide +kernel
theorem dL_law_314 : decode cL_law 314 = .ok (.iconst 0, 1) := by decide +kernel
theorem dL_law_315 : decode cL_law 315 = .ok (.istore 18, 2) := by decide +kernel
theorem dL_law_317 : decode cL_law 317 = .ok (.iload 18, 2) := by decide +kernel
theorem dL_law_319 : decode cL_law 319 = .ok (.bipush 9, 2) := by decide +kernel
theorem dL_law_321 : decode cL_law 321 = .ok (.if_icmp .ge 22, 3) := by decide +kernel
theorem dL_law_324 : decode cL_law 324 = .ok (.aload 17, 2) := by decide +kernel
theorem dL_law_326 : decode cL_law 326 = .ok (.iload 18, 2) := by decide +kernel
theorem dL_law_328 : decode cL_law 328 = .ok (.aload_n 1, 1) := by decide +kernel
theorem dL_law_329 : decode cL_law 329 = .ok (.iload 16, 2) := by decide +kernel
theorem dL_law_331 : decode cL_law 331 = .ok (.iload 18, 2) := by decide +kernel
theorem dL_law_333 : decode cL_law 333 = .ok (.invokevirtual 81, 3) := by decide +kernel
theorem dL_law_336 : decode cL_law 336 = .ok (.iastore, 1) := by decide +kernel
theorem dL_law_337 : decode cL_law 337 = .ok (.iinc 18 1, 3) := by decide +kernel
theorem dL_law_340 : decode cL_law 340 = .ok (.goto (-23), 3) := by decide +kernel
theorem dL_law_343 : decode cL_law 343 = .ok (.aload_n 2, 1) := by decide +kernel
theorem dL_law_344 : decode cL_law 344 = .ok (.getfield 9, 3) := by decide +kernel
theorem dL_law_347 : decode cL_law 347 = .ok (.iload 16, 2) := by decide +kernel
theorem dL_law_349 : decode cL_law 349 = .ok (.aaload, 1) := by decide +kernel
theorem dL_law_350 : decode cL_law 350 = .ok (.bipush 8, 2) := by decide +kernel
theorem dL_law_352 : decode cL_law 352 = .ok (.iaload, 1) := by decide +kernel
theorem dL_law_353 : decode cL_law 353 = .ok (.istore 18, 2) := by decide +kernel
theorem dL_law_355 : decode cL_law 355 = .ok (.aload 17, 2) := by decide +kernel
theorem dL_law_357 : decode cL_law 357 = .ok (.iconst 0, 1) := by decide +kernel
theorem dL_law_358 : decode cL_law 358 = .ok (.iaload, 1) := by decide +kernel
theorem dL_law_359 : decode cL_law 359 = .ok (.aload 6, 2) := by decide +kernel
theorem dL_law_361 : decode cL_law 361 = .ok (.iload 16, 2) := by decide +kernel
theorem dL_law_363 : decode cL_law 363 = .ok (.aaload, 1) := by decide +kernel
theorem dL_law_364 : decode cL_law 364 = .ok (.iconst 0, 1) := by decide +kernel
theorem dL_law_365 : decode cL_law 365 = .ok (.iaload, 1) := by decide +kernel
theorem dL_law_366 : decode cL_law 366 = .ok (.isub, 1) := by decide +kernel
theorem dL_law_367 : decode cL_law 367 = .ok (.istore 19, 2) := by decide +kernel
theorem dL_law_369 : decode cL_law 369 = .ok (.iload 15, 2) := by decide +kernel
theorem dL_law_371 : decode cL_law 371 = .ok (.aload 17, 2) := by decide +kernel
theorem dL_law_373 : decode cL_law 373 = .ok (.iconst 0, 1) := by decide +kernel
theorem dL_law_374 : decode cL_law 374 = .ok (.iaload, 1) := by decide +kernel
theorem dL_law_375 : decode cL_law 375 = .ok (.iadd, 1) := by decide +kernel
theorem dL_law_376 : decode cL_law 376 = .ok (.istore 15, 2) := by decide +kernel
theorem dL_law_378 : decode cL_law 378 = .ok (.aload 6, 2) := by decide +kernel
theorem dL_law_380 : decode cL_law 380 = .ok (.iload 16, 2) := by decide +kernel
theorem dL_law_382 : decode cL_law 382 = .ok (.aaload, 1) := by decide +kernel
theorem dL_law_383 : decode cL_law 383 = .ok (.iconst 5, 1) := by decide +kernel
theorem dL_law_384 : decode cL_law 384 = .ok (.iaload, 1) := by decide +kernel
theorem dL_law_385 : decode cL_law 385 = .ok (.iconst 1, 1) := by decide +kernel
theorem dL_law_386 : decode cL_law 386 = .ok (.if_icmp .ne 47, 3) := by decide +kernel
theorem dL_law_389 : decode cL_law 389 = .ok (.iconst 0, 1) := by decide +kernel
theorem dL_law_390 : decode cL_law 390 = .ok (.istore 20, 2) := by decide +kernel
theorem dL_law_392 : decode cL_law 392 = .ok (.iload 20, 2) := by decide +kernel
theorem dL_law_394 : decode cL_law 394 = .ok (.bipush 9, 2) := by decide +kernel
theorem dL_law_396 : decode cL_law 396 = .ok (.if_icmp .ge 27, 3) := by decide +kernel
theorem dL_law_399 : decode cL_law 399 = .ok (.aload 17, 2) := by decide +kernel
theorem dL_law_401 : decode cL_law 401 = .ok (.iload 20, 2) := by decide +kernel
theorem dL_law_403 : decode cL_law 403 = .ok (.iaload, 1) := by decide +kernel
theorem dL_law_404 : decode cL_law 404 = .ok (.aload 6, 2) := by decide +kernel
theorem dL_law_406 : decode cL_law 406 = .ok (.iload 16, 2) := by decide +kernel
theorem dL_law_408 : decode cL_law 408 = .ok (.aaload, 1) := by decide +kernel
theorem dL_law_409 : decode cL_law 409 = .ok (.iload 20, 2) := by decide +kernel
theorem dL_law_411 : decode cL_law 411 = .ok (.iaload, 1) := by decide +kernel
theorem dL_law_412 : decode cL_law 412 = .ok (.if_icmp .eq 5, 3) := by decide +kernel
theorem dL_law_415 : decode cL_law 415 = .ok (.iconst 0, 1) := by decide +kernel
theorem dL_law_416 : decode cL_law 416 = .ok (.ireturn, 1) := by decide +kernel
theorem dL_law_417 : decode cL_law 417 = .ok (.iinc 20 1, 3) := by decide +kernel
theorem dL_law_420 : decode cL_law 420 = .ok (.goto (-28), 3) := by decide +kernel
theorem dL_law_423 : decode cL_law 423 = .ok (.aload 7, 2) := by decide +kernel
theorem dL_law_425 : decode cL_law 425 = .ok (.iload 16, 2) := by decide +kernel
theorem dL_law_427 : decode cL_law 427 = .ok (.iaload, 1) := by decide +kernel
theorem dL_law_428 : decode cL_law 428 = .ok (.ifCond .eq 434, 3) := by decide +kernel
theorem dL_law_431 : decode cL_law 431 = .ok (.iconst 0, 1) := by decide +kernel
theorem dL_law_432 : decode cL_law 432 = .ok (.ireturn, 1) := by decide +kernel
theorem dL_law_433 : decode cL_law 433 = .ok (.iload 19, 2) := by decide +kernel
theorem dL_law_435 : decode cL_law 435 = .ok (.ifCond .lt 247, 3) := by decide +kernel
theorem dL_law_438 : decode cL_law 438 = .ok (.iload 19, 2) := by decide +kernel
theorem dL_law_440 : decode cL_law 440 = .ok (.iload 18, 2) := by decide +kernel
theorem dL_law_442 : decode cL_law 442 = .ok (.bipush 6, 2) := by decide +kernel
theorem dL_law_444 : decode cL_law 444 = .ok (.iadd, 1) := by decide +kernel
theorem dL_law_445 : decode cL_law 445 = .ok (.if_icmp .gt 237, 3) := by decide +kernel
theorem dL_law_448 : decode cL_law 448 = .ok (.aload 17, 2) := by decide +kernel
theorem dL_law_450 : decode cL_law 450 = .ok (.iconst 0, 1) := by decide +kernel
theorem dL_law_451 : decode cL_law 451 = .ok (.iaload, 1) := by decide +kernel
theorem dL_law_452 : decode cL_law 452 = .ok (.sipush 200, 3) := by decide +kernel
theorem dL_law_455 : decode cL_law 455 = .ok (.if_icmp .gt 227, 3) := by decide +kernel
theorem dL_law_458 : decode cL_law 458 = .ok (.aload 17, 2) := by decide +kernel
theorem dL_law_460 : decode cL_law 460 = .ok (.iconst 1, 1) := by decide +kernel
theorem dL_law_461 : decode cL_law 461 = .ok (.iaload, 1) := by decide +kernel
theorem dL_law_462 : decode cL_law 462 = .ok (.aload 6, 2) := by decide +kernel
theorem dL_law_464 : decode cL_law 464 = .ok (.iload 16, 2) := by decide +kernel
theorem dL_law_466 : decode cL_law 466 = .ok (.aaload, 1) := by decide +kernel
theorem dL_law_467 : decode cL_law 467 = .ok (.iconst 1, 1) := by decide +kernel
theorem dL_law_468 : decode cL_law 468 = .ok (.iaload, 1) := by decide +kernel
theorem dL_law_469 : decode cL_law 469 = .ok (.isub, 1) := by decide +kernel
theorem dL_law_470 : decode cL_law 470 = .ok (.invokestatic 97, 3) := by decide +kernel
theorem dL_law_473 : decode cL_law 473 = .ok (.iconst 1, 1) := by decide +kernel
theorem dL_law_474 : decode cL_law 474 = .ok (.if_icmp .gt 208, 3) := by decide +kernel
theorem dL_law_477 : decode cL_law 477 = .ok (.aload 17, 2) := by decide +kernel
theorem dL_law_479 : decode cL_law 479 = .ok (.iconst 1, 1) := by decide +kernel
theorem dL_law_480 : decode cL_law 480 = .ok (.iaload, 1) := by decide +kernel
theorem dL_law_481 : decode cL_law 481 = .ok (.ifCond .lt 201, 3) := by decide +kernel
theorem dL_law_484 : decode cL_law 484 = .ok (.aload 17, 2) := by decide +kernel
theorem dL_law_486 : decode cL_law 486 = .ok (.iconst 1, 1) := by decide +kernel
theorem dL_law_487 : decode cL_law 487 = .ok (.iaload, 1) := by decide +kernel
theorem dL_law_488 : decode cL_law 488 = .ok (.iconst 4, 1) := by decide +kernel
theorem dL_law_489 : decode cL_law 489 = .ok (.if_icmp .gt 193, 3) := by decide +kernel
theorem dL_law_492 : decode cL_law 492 = .ok (.aload 17, 2) := by decide +kernel
theorem dL_law_494 : decode cL_law 494 = .ok (.iconst 2, 1) := by decide +kernel
theorem dL_law_495 : decode cL_law 495 = .ok (.iaload, 1) := by decide +kernel
theorem dL_law_496 : decode cL_law 496 = .ok (.invokestatic 97, 3) := by decide +kernel
theorem dL_law_499 : decode cL_law 499 = .ok (.iconst 4, 1) := by decide +kernel
theorem dL_law_500 : decode cL_law 500 = .ok (.if_icmp .gt 182, 3) := by decide +kernel
theorem dL_law_503 : decode cL_law 503 = .ok (.aload 17, 2) := by decide +kernel
theorem dL_law_505 : decode cL_law 505 = .ok (.iconst 3, 1) := by decide +kernel
theorem dL_law_506 : decode cL_law 506 = .ok (.iaload, 1) := by decide +kernel
theorem dL_law_507 : decode cL_law 507 = .ok (.aload 6, 2) := by decide +kernel
theorem dL_law_509 : decode cL_law 509 = .ok (.iload 16, 2) := by decide +kernel
theorem dL_law_511 : decode cL_law 511 = .ok (.aaload, 1) := by decide +kernel
theorem dL_law_512 : decode cL_law 512 = .ok (.iconst 3, 1) := by decide +kernel
theorem dL_law_513 : decode cL_law 513 = .ok (.iaload, 1) := by decide +kernel
theorem dL_law_514 : decode cL_law 514 = .ok (.if_icmp .lt 168, 3) := by decide +kernel
theorem dL_law_517 : decode cL_law 517 = .ok (.aload 17, 2) := by decide +kernel
theorem dL_law_519 : decode cL_law 519 = .ok (.iconst 3, 1) := by decide +kernel
theorem dL_law_520 : decode cL_law 520 = .ok (.iaload, 1) := by decide +kernel
theorem dL_law_521 : decode cL_law 521 = .ok (.bipush 30, 2) := by decide +kernel
theorem dL_law_523 : decode cL_law 523 = .ok (.if_icmp .gt 159, 3) := by decide +kernel
theorem dL_law_526 : decode cL_law 526 = .ok (.aload 17, 2) := by decide +kernel
theorem dL_law_528 : decode cL_law 528 = .ok (.iconst 4, 1) := by decide +kernel
theorem dL_law_529 : decode cL_law 529 = .ok (.iaload, 1) := by decide +kernel
theorem dL_law_530 : decode cL_law 530 = .ok (.aload 6, 2) := by decide +kernel
theorem dL_law_532 : decode cL_law 532 = .ok (.iload 16, 2) := by decide +kernel
theorem dL_law_534 : decode cL_law 534 = .ok (.aaload, 1) := by decide +kernel
theorem dL_law_535 : decode cL_law 535 = .ok (.iconst 4, 1) := by decide +kernel
theorem dL_law_536 : decode cL_law 536 = .ok (.iaload, 1) := by decide +kernel
theorem dL_law_537 : decode cL_law 537 = .ok (.if_icmp .eq 19, 3) := by decide +kernel
theorem dL_law_540 : decode cL_law 540 = .ok (.aload 17, 2) := by decide +kernel
theorem dL_law_542 : decode cL_law 542 = .ok (.iconst 4, 1) := by decide +kernel
theorem dL_law_543 : decode cL_law 543 = .ok (.iaload, 1) := by decide +kernel
theorem dL_law_544 : decode cL_law 544 = .ok (.aload 6, 2) := by decide +kernel
theorem dL_law_546 : decode cL_law 546 = .ok (.iload 16, 2) := by decide +kernel
theorem dL_law_548 : decode cL_law 548 = .ok (.aaload, 1) := by decide +kernel
theorem dL_law_549 : decode cL_law 549 = .ok (.iconst 4, 1) := by decide +kernel
theorem dL_law_550 : decode cL_law 550 = .ok (.iaload, 1) := by decide +kernel
theorem dL_law_551 : decode cL_law 551 = .ok (.iconst 3, 1) := by decide +kernel
theorem dL_law_552 : decode cL_law 552 = .ok (.iadd, 1) := by decide +kernel
theorem dL_law_553 : decode cL_law 553 = .ok (.if_icmp .ne 129, 3) := by decide +kernel
theorem dL_law_556 : decode cL_law 556 = .ok (.aload 17, 2) := by decide +kernel
theorem dL_law_558 : decode cL_law 558 = .ok (.iconst 5, 1) := by decide +kernel
theorem dL_law_559 : decode cL_law 559 = .ok (.iaload, 1) := by decide +kernel
theorem dL_law_560 : decode cL_law 560 = .ok (.iconst 1, 1) := by decide +kernel
theorem dL_law_561 : decode cL_law 561 = .ok (.if_icmp .ne 7, 3) := by decide +kernel
theorem dL_law_564 : decode cL_law 564 = .ok (.iconst 1, 1) := by decide +kernel
theorem dL_law_565 : decode cL_law 565 = .ok (.goto 4, 3) := by decide +kernel
theorem dL_law_568 : decode cL_law 568 = .ok (.iconst 0, 1) := by decide +kernel
theorem dL_law_569 : decode cL_law 569 = .ok (.aload 17, 2) := by decide +kernel
theorem dL_law_571 : decode cL_law 571 = .ok (.iconst 0, 1) := by decide +kernel
theorem dL_law_572 : decode cL_law 572 = .ok (.iaload, 1) := by decide +kernel
theorem dL_law_573 : decode cL_law 573 = .ok (.sipush 200, 3) := by decide +kernel
theorem dL_law_576 : decode cL_law 576 = .ok (.if_icmp .ne 7, 3) := by decide +kernel
theorem dL_law_579 : decode cL_law 579 = .ok (.iconst 1, 1) := by decide +kernel
theorem dL_law_580 : decode cL_law 580 = .ok (.goto 4, 3) := by decide +kernel
theorem dL_law_583 : decode cL_law 583 = .ok (.iconst 0, 1) := by decide +kernel
theorem dL_law_584 : decode cL_law 584 = .ok (.if_icmp .ne 98, 3) := by decide +kernel
theorem dL_law_587 : decode cL_law 587 = .ok (.aload 17, 2) := by decide +kernel
theorem dL_law_589 : decode cL_law 589 = .ok (.iconst 5, 1) := by decide +kernel
theorem dL_law_590 : decode cL_law 590 = .ok (.iaload, 1) := by decide +kernel
theorem dL_law_591 : decode cL_law 591 = .ok (.iconst 1, 1) := by decide +kernel
theorem dL_law_592 : decode cL_law 592 = .ok (.if_icmp .ne 7, 3) := by decide +kernel
theorem dL_law_595 : decode cL_law 595 = .ok (.iconst 1, 1) := by decide +kernel
theorem dL_law_596 : decode cL_law 596 = .ok (.goto 4, 3) := by decide +kernel
theorem dL_law_599 : decode cL_law 599 = .ok (.iconst 0, 1) := by decide +kernel
theorem dL_law_600 : decode cL_law 600 = .ok (.aload 7, 2) := by decide +kernel
theorem dL_law_602 : decode cL_law 602 = .ok (.iload 16, 2) := by decide +kernel
theorem dL_law_604 : decode cL_law 604 = .ok (.iaload, 1) := by decide +kernel
end
section
theorem dL_law_605 : decode cL_law 605 = .ok (.iconst 1, 1) := by decide +kernel
theorem dL_law_606 : decode cL_law 606 = .ok (.if_icmp .ne 7, 3) := by decide +kernel
theorem dL_law_609 : decode cL_law 609 = .ok (.iconst 1, 1) := by decide +kernel
theorem dL_law_610 : decode cL_law 610 = .ok (.goto 4, 3) := by decide +kernel
theorem dL_law_613 : decode cL_law 613 = .ok (.iconst 0, 1) := by decide +kernel
theorem dL_law_614 : decode cL_law 614 = .ok (.if_icmp .ne 68, 3) := by decide +kernel
theorem dL_law_617 : decode cL_law 617 = .ok (.aload 17, 2) := by decide +kernel
theorem dL_law_619 : decode cL_law 619 = .ok (.bipush 6, 2) := by decide +kernel
theorem dL_law_621 : decode cL_law 621 = .ok (.iaload, 1) := by decide +kernel
theorem dL_law_622 : decode cL_law 622 = .ok (.aload 17, 2) := by decide +kernel
theorem dL_law_624 : decode cL_law 624 = .ok (.iconst 5, 1) := by decide +kernel
theorem dL_law_625 : decode cL_law 625 = .ok (.iaload, 1) := by decide +kernel
theorem dL_law_626 : decode cL_law 626 = .ok (.iconst 1, 1) := by decide +kernel
theorem dL_law_627 : decode cL_law 627 = .ok (.if_icmp .ne 15, 3) := by decide +kernel
theorem dL_law_630 : decode cL_law 630 = .ok (.iload 11, 2) := by decide +kernel
theorem dL_law_632 : decode cL_law 632 = .ok (.iconst 1, 1) := by decide +kernel
theorem dL_law_633 : decode cL_law 633 = .ok (.iadd, 1) := by decide +kernel
theorem dL_law_634 : decode cL_law 634 = .ok (.aload 17, 2) := by decide +kernel
theorem dL_law_636 : decode cL_law 636 = .ok (.iconst 4, 1) := by decide +kernel
theorem dL_law_637 : decode cL_law 637 = .ok (.iaload, 1) := by decide +kernel
theorem dL_law_638 : decode cL_law 638 = .ok (.iadd, 1) := by decide +kernel
theorem dL_law_639 : decode cL_law 639 = .ok (.goto 4, 3) := by decide +kernel
theorem dL_law_642 : decode cL_law 642 = .ok (.iconst (-1), 1) := by decide +kernel
theorem dL_law_643 : decode cL_law 643 = .ok (.if_icmp .ne 39, 3) := by decide +kernel
theorem dL_law_646 : decode cL_law 646 = .ok (.aload 17, 2) := by decide +kernel
theorem dL_law_648 : decode cL_law 648 = .ok (.bipush 7, 2) := by decide +kernel
theorem dL_law_650 : decode cL_law 650 = .ok (.iaload, 1) := by decide +kernel
theorem dL_law_651 : decode cL_law 651 = .ok (.aload 6, 2) := by decide +kernel
theorem dL_law_653 : decode cL_law 653 = .ok (.iload 16, 2) := by decide +kernel
theorem dL_law_655 : decode cL_law 655 = .ok (.aaload, 1) := by decide +kernel
theorem dL_law_656 : decode cL_law 656 = .ok (.bipush 7, 2) := by decide +kernel
theorem dL_law_658 : decode cL_law 658 = .ok (.iaload, 1) := by decide +kernel
theorem dL_law_659 : decode cL_law 659 = .ok (.iconst 1, 1) := by decide +kernel
theorem dL_law_660 : decode cL_law 660 = .ok (.iadd, 1) := by decide +kernel
theorem dL_law_661 : decode cL_law 661 = .ok (.if_icmp .gt 21, 3) := by decide +kernel
theorem dL_law_664 : decode cL_law 664 = .ok (.aload 17, 2) := by decide +kernel
theorem dL_law_666 : decode cL_law 666 = .ok (.bipush 8, 2) := by decide +kernel
theorem dL_law_668 : decode cL_law 668 = .ok (.iaload, 1) := by decide +kernel
theorem dL_law_669 : decode cL_law 669 = .ok (.aload 6, 2) := by decide +kernel
theorem dL_law_671 : decode cL_law 671 = .ok (.iload 16, 2) := by decide +kernel
theorem dL_law_673 : decode cL_law 673 = .ok (.aaload, 1) := by decide +kernel
theorem dL_law_674 : decode cL_law 674 = .ok (.bipush 8, 2) := by decide +kernel
theorem dL_law_676 : decode cL_law 676 = .ok (.iaload, 1) := by decide +kernel
theorem dL_law_677 : decode cL_law 677 = .ok (.iconst 1, 1) := by decide +kernel
theorem dL_law_678 : decode cL_law 678 = .ok (.iadd, 1) := by decide +kernel
theorem dL_law_679 : decode cL_law 679 = .ok (.if_icmp .le 5, 3) := by decide +kernel
theorem dL_law_682 : decode cL_law 682 = .ok (.iconst 0, 1) := by decide +kernel
theorem dL_law_683 : decode cL_law 683 = .ok (.ireturn, 1) := by decide +kernel
theorem dL_law_684 : decode cL_law 684 = .ok (.aload 7, 2) := by decide +kernel
theorem dL_law_686 : decode cL_law 686 = .ok (.iload 16, 2) := by decide +kernel
theorem dL_law_688 : decode cL_law 688 = .ok (.iaload, 1) := by decide +kernel
theorem dL_law_689 : decode cL_law 689 = .ok (.iconst 1, 1) := by decide +kernel
theorem dL_law_690 : decode cL_law 690 = .ok (.if_icmp .le 21, 3) := by decide +kernel
theorem dL_law_693 : decode cL_law 693 = .ok (.aload_n 1, 1) := by decide +kernel
theorem dL_law_694 : decode cL_law 694 = .ok (.iload 16, 2) := by decide +kernel
theorem dL_law_696 : decode cL_law 696 = .ok (.invokevirtual 84, 3) := by decide +kernel
theorem dL_law_699 : decode cL_law 699 = .ok (.aload 7, 2) := by decide +kernel
theorem dL_law_701 : decode cL_law 701 = .ok (.iload 16, 2) := by decide +kernel
theorem dL_law_703 : decode cL_law 703 = .ok (.iaload, 1) := by decide +kernel
theorem dL_law_704 : decode cL_law 704 = .ok (.iconst 1, 1) := by decide +kernel
theorem dL_law_705 : decode cL_law 705 = .ok (.isub, 1) := by decide +kernel
theorem dL_law_706 : decode cL_law 706 = .ok (.if_icmp .eq 5, 3) := by decide +kernel
theorem dL_law_709 : decode cL_law 709 = .ok (.iconst 0, 1) := by decide +kernel
theorem dL_law_710 : decode cL_law 710 = .ok (.ireturn, 1) := by decide +kernel
theorem dL_law_711 : decode cL_law 711 = .ok (.aload 17, 2) := by decide +kernel
theorem dL_law_713 : decode cL_law 713 = .ok (.bipush 8, 2) := by decide +kernel
theorem dL_law_715 : decode cL_law 715 = .ok (.iaload, 1) := by decide +kernel
theorem dL_law_716 : decode cL_law 716 = .ok (.aload 6, 2) := by decide +kernel
theorem dL_law_718 : decode cL_law 718 = .ok (.iload 16, 2) := by decide +kernel
theorem dL_law_720 : decode cL_law 720 = .ok (.aaload, 1) := by decide +kernel
theorem dL_law_721 : decode cL_law 721 = .ok (.bipush 8, 2) := by decide +kernel
theorem dL_law_723 : decode cL_law 723 = .ok (.iaload, 1) := by decide +kernel
theorem dL_law_724 : decode cL_law 724 = .ok (.if_icmp .le 7, 3) := by decide +kernel
theorem dL_law_727 : decode cL_law 727 = .ok (.iconst 1, 1) := by decide +kernel
theorem dL_law_728 : decode cL_law 728 = .ok (.goto 4, 3) := by decide +kernel
theorem dL_law_731 : decode cL_law 731 = .ok (.iconst 0, 1) := by decide +kernel
theorem dL_law_732 : decode cL_law 732 = .ok (.istore 20, 2) := by decide +kernel
theorem dL_law_734 : decode cL_law 734 = .ok (.aload 6, 2) := by decide +kernel
theorem dL_law_736 : decode cL_law 736 = .ok (.iload 16, 2) := by decide +kernel
theorem dL_law_738 : decode cL_law 738 = .ok (.aaload, 1) := by decide +kernel
theorem dL_law_739 : decode cL_law 739 = .ok (.iconst 0, 1) := by decide +kernel
theorem dL_law_740 : decode cL_law 740 = .ok (.iaload, 1) := by decide +kernel
theorem dL_law_741 : decode cL_law 741 = .ok (.iconst 1, 1) := by decide +kernel
theorem dL_law_742 : decode cL_law 742 = .ok (.iadd, 1) := by decide +kernel
theorem dL_law_743 : decode cL_law 743 = .ok (.istore 21, 2) := by decide +kernel
theorem dL_law_745 : decode cL_law 745 = .ok (.iload 21, 2) := by decide +kernel
theorem dL_law_747 : decode cL_law 747 = .ok (.aload 17, 2) := by decide +kernel
theorem dL_law_749 : decode cL_law 749 = .ok (.iconst 0, 1) := by decide +kernel
theorem dL_law_750 : decode cL_law 750 = .ok (.iaload, 1) := by decide +kernel
theorem dL_law_751 : decode cL_law 751 = .ok (.if_icmp .gt 62, 3) := by decide +kernel
theorem dL_law_754 : decode cL_law 754 = .ok (.aload_n 2, 1) := by decide +kernel
theorem dL_law_755 : decode cL_law 755 = .ok (.getfield 34, 3) := by decide +kernel
theorem dL_law_758 : decode cL_law 758 = .ok (.iload 21, 2) := by decide +kernel
theorem dL_law_760 : decode cL_law 760 = .ok (.iaload, 1) := by decide +kernel
theorem dL_law_761 : decode cL_law 761 = .ok (.ifCond .lt 46, 3) := by decide +kernel
theorem dL_law_764 : decode cL_law 764 = .ok (.aload_n 2, 1) := by decide +kernel
theorem dL_law_765 : decode cL_law 765 = .ok (.getfield 34, 3) := by decide +kernel
theorem dL_law_768 : decode cL_law 768 = .ok (.iload 21, 2) := by decide +kernel
theorem dL_law_770 : decode cL_law 770 = .ok (.iaload, 1) := by decide +kernel
theorem dL_law_771 : decode cL_law 771 = .ok (.aload 17, 2) := by decide +kernel
theorem dL_law_773 : decode cL_law 773 = .ok (.iconst 1, 1) := by decide +kernel
theorem dL_law_774 : decode cL_law 774 = .ok (.iaload, 1) := by decide +kernel
theorem dL_law_775 : decode cL_law 775 = .ok (.if_icmp .eq 7, 3) := by decide +kernel
theorem dL_law_778 : decode cL_law 778 = .ok (.iconst 1, 1) := by decide +kernel
theorem dL_law_779 : decode cL_law 779 = .ok (.goto 4, 3) := by decide +kernel
theorem dL_law_782 : decode cL_law 782 = .ok (.iconst 0, 1) := by decide +kernel
theorem dL_law_783 : decode cL_law 783 = .ok (.iload 20, 2) := by decide +kernel
theorem dL_law_785 : decode cL_law 785 = .ok (.ifCond .eq 16, 3) := by decide +kernel
theorem dL_law_788 : decode cL_law 788 = .ok (.iload 21, 2) := by decide +kernel
theorem dL_law_790 : decode cL_law 790 = .ok (.aload 17, 2) := by decide +kernel
theorem dL_law_792 : decode cL_law 792 = .ok (.iconst 0, 1) := by decide +kernel
theorem dL_law_793 : decode cL_law 793 = .ok (.iaload, 1) := by decide +kernel
theorem dL_law_794 : decode cL_law 794 = .ok (.if_icmp .ne 7, 3) := by decide +kernel
theorem dL_law_797 : decode cL_law 797 = .ok (.iconst 1, 1) := by decide +kernel
theorem dL_law_798 : decode cL_law 798 = .ok (.goto 4, 3) := by decide +kernel
theorem dL_law_801 : decode cL_law 801 = .ok (.iconst 0, 1) := by decide +kernel
theorem dL_law_802 : decode cL_law 802 = .ok (.if_icmp .eq 5, 3) := by decide +kernel
theorem dL_law_805 : decode cL_law 805 = .ok (.iconst 0, 1) := by decide +kernel
theorem dL_law_806 : decode cL_law 806 = .ok (.ireturn, 1) := by decide +kernel
theorem dL_law_807 : decode cL_law 807 = .ok (.iinc 21 1, 3) := by decide +kernel
theorem dL_law_810 : decode cL_law 810 = .ok (.goto (-65), 3) := by decide +kernel
theorem dL_law_813 : decode cL_law 813 = .ok (.iload 20, 2) := by decide +kernel
theorem dL_law_815 : decode cL_law 815 = .ok (.ifCond .eq 22, 3) := by decide +kernel
theorem dL_law_818 : decode cL_law 818 = .ok (.aload 17, 2) := by decide +kernel
theorem dL_law_820 : decode cL_law 820 = .ok (.iconst 2, 1) := by decide +kernel
theorem dL_law_821 : decode cL_law 821 = .ok (.iaload, 1) := by decide +kernel
theorem dL_law_822 : decode cL_law 822 = .ok (.ifCond .ne 38, 3) := by decide +kernel
theorem dL_law_825 : decode cL_law 825 = .ok (.aload_n 2, 1) := by decide +kernel
theorem dL_law_826 : decode cL_law 826 = .ok (.getfield 34, 3) := by decide +kernel
theorem dL_law_829 : decode cL_law 829 = .ok (.aload 17, 2) := by decide +kernel
theorem dL_law_831 : decode cL_law 831 = .ok (.iconst 0, 1) := by decide +kernel
theorem dL_law_832 : decode cL_law 832 = .ok (.iaload, 1) := by decide +kernel
theorem dL_law_833 : decode cL_law 833 = .ok (.iaload, 1) := by decide +kernel
theorem dL_law_834 : decode cL_law 834 = .ok (.ifCond .lt 26, 3) := by decide +kernel
theorem dL_law_837 : decode cL_law 837 = .ok (.aload 17, 2) := by decide +kernel
theorem dL_law_839 : decode cL_law 839 = .ok (.bipush 7, 2) := by decide +kernel
theorem dL_law_841 : decode cL_law 841 = .ok (.iaload, 1) := by decide +kernel
theorem dL_law_842 : decode cL_law 842 = .ok (.aload 6, 2) := by decide +kernel
theorem dL_law_844 : decode cL_law 844 = .ok (.iload 16, 2) := by decide +kernel
theorem dL_law_846 : decode cL_law 846 = .ok (.aaload, 1) := by decide +kernel
theorem dL_law_847 : decode cL_law 847 = .ok (.bipush 7, 2) := by decide +kernel
theorem dL_law_849 : decode cL_law 849 = .ok (.iaload, 1) := by decide +kernel
theorem dL_law_850 : decode cL_law 850 = .ok (.if_icmp .le 12, 3) := by decide +kernel
theorem dL_law_853 : decode cL_law 853 = .ok (.aload 17, 2) := by decide +kernel
theorem dL_law_855 : decode cL_law 855 = .ok (.iconst 2, 1) := by decide +kernel
theorem dL_law_856 : decode cL_law 856 = .ok (.iaload, 1) := by decide +kernel
theorem dL_law_857 : decode cL_law 857 = .ok (.ifCond .eq 5, 3) := by decide +kernel
theorem dL_law_860 : decode cL_law 860 = .ok (.iconst 0, 1) := by decide +kernel
theorem dL_law_861 : decode cL_law 861 = .ok (.ireturn, 1) := by decide +kernel
theorem dL_law_862 : decode cL_law 862 = .ok (.iconst 1, 1) := by decide +kernel
theorem dL_law_863 : decode cL_law 863 = .ok (.istore 20, 2) := by decide +kernel
theorem dL_law_865 : decode cL_law 865 = .ok (.iconst 0, 1) := by decide +kernel
theorem dL_law_866 : decode cL_law 866 = .ok (.istore 21, 2) := by decide +kernel
theorem dL_law_868 : decode cL_law 868 = .ok (.iload 21, 2) := by decide +kernel
theorem dL_law_870 : decode cL_law 870 = .ok (.iload 5, 2) := by decide +kernel
theorem dL_law_872 : decode cL_law 872 = .ok (.if_icmp .ge 110, 3) := by decide +kernel
theorem dL_law_875 : decode cL_law 875 = .ok (.aload_n 1, 1) := by decide +kernel
theorem dL_law_876 : decode cL_law 876 = .ok (.iload 21, 2) := by decide +kernel
theorem dL_law_878 : decode cL_law 878 = .ok (.iconst 5, 1) := by decide +kernel
theorem dL_law_879 : decode cL_law 879 = .ok (.invokevirtual 81, 3) := by decide +kernel
theorem dL_law_882 : decode cL_law 882 = .ok (.aload 17, 2) := by decide +kernel
theorem dL_law_884 : decode cL_law 884 = .ok (.iconst 5, 1) := by decide +kernel
theorem dL_law_885 : decode cL_law 885 = .ok (.iaload, 1) := by decide +kernel
theorem dL_law_886 : decode cL_law 886 = .ok (.if_icmp .eq 22, 3) := by decide +kernel
theorem dL_law_889 : decode cL_law 889 = .ok (.aload_n 1, 1) := by decide +kernel
theorem dL_law_890 : decode cL_law 890 = .ok (.iload 21, 2) := by decide +kernel
theorem dL_law_892 : decode cL_law 892 = .ok (.iconst 5, 1) := by decide +kernel
theorem dL_law_893 : decode cL_law 893 = .ok (.invokevirtual 81, 3) := by decide +kernel
theorem dL_law_896 : decode cL_law 896 = .ok (.iconst 1, 1) := by decide +kernel
theorem dL_law_897 : decode cL_law 897 = .ok (.if_icmp .ne 7, 3) := by decide +kernel
theorem dL_law_900 : decode cL_law 900 = .ok (.iconst 1, 1) := by decide +kernel
theorem dL_law_901 : decode cL_law 901 = .ok (.goto 58, 3) := by decide +kernel
theorem dL_law_904 : decode cL_law 904 = .ok (.iconst 0, 1) := by decide +kernel
theorem dL_law_905 : decode cL_law 905 = .ok (.goto 54, 3) := by decide +kernel
theorem dL_law_908 : decode cL_law 908 = .ok (.aload 17, 2) := by decide +kernel
theorem dL_law_910 : decode cL_law 910 = .ok (.iconst 5, 1) := by decide +kernel
theorem dL_law_911 : decode cL_law 911 = .ok (.iaload, 1) := by decide +kernel
theorem dL_law_912 : decode cL_law 912 = .ok (.iconst 1, 1) := by decide +kernel
theorem dL_law_913 : decode cL_law 913 = .ok (.if_icmp .ne 27, 3) := by decide +kernel
theorem dL_law_916 : decode cL_law 916 = .ok (.aload_n 1, 1) := by decide +kernel
theorem dL_law_917 : decode cL_law 917 = .ok (.iload 21, 2) := by decide +kernel
theorem dL_law_919 : decode cL_law 919 = .ok (.bipush 6, 2) := by decide +kernel
theorem dL_law_921 : decode cL_law 921 = .ok (.invokevirtual 81, 3) := by decide +kernel
theorem dL_law_924 : decode cL_law 924 = .ok (.aload 17, 2) := by decide +kernel
theorem dL_law_926 : decode cL_law 926 = .ok (.bipush 6, 2) := by decide +kernel
theorem dL_law_928 : decode cL_law 928 = .ok (.iaload, 1) := by decide +kernel
theorem dL_law_929 : decode cL_law 929 = .ok (.if_icmp .ge 7, 3) := by decide +kernel
theorem dL_law_932 : decode cL_law 932 = .ok (.iconst 1, 1) := by decide +kernel
theorem dL_law_933 : decode cL_law 933 = .ok (.goto 26, 3) := by decide +kernel
theorem dL_law_936 : decode cL_law 936 = .ok (.iconst 0, 1) := by decide +kernel
theorem dL_law_937 : decode cL_law 937 = .ok (.goto 22, 3) := by decide +kernel
theorem dL_law_940 : decode cL_law 940 = .ok (.aload_n 1, 1) := by decide +kernel
theorem dL_law_941 : decode cL_law 941 = .ok (.iload 21, 2) := by decide +kernel
theorem dL_law_943 : decode cL_law 943 = .ok (.iconst 0, 1) := by decide +kernel
theorem dL_law_944 : decode cL_law 944 = .ok (.invokevirtual 81, 3) := by decide +kernel
theorem dL_law_947 : decode cL_law 947 = .ok (.aload 17, 2) := by decide +kernel
theorem dL_law_949 : decode cL_law 949 = .ok (.iconst 0, 1) := by decide +kernel
theorem dL_law_950 : decode cL_law 950 = .ok (.iaload, 1) := by decide +kernel
theorem dL_law_951 : decode cL_law 951 = .ok (.if_icmp .le 7, 3) := by decide +kernel
theorem dL_law_954 : decode cL_law 954 = .ok (.iconst 1, 1) := by decide +kernel
theorem dL_law_955 : decode cL_law 955 = .ok (.goto 4, 3) := by decide +kernel
theorem dL_law_958 : decode cL_law 958 = .ok (.iconst 0, 1) := by decide +kernel
theorem dL_law_959 : decode cL_law 959 = .ok (.istore 22, 2) := by decide +kernel
theorem dL_law_961 : decode cL_law 961 = .ok (.iload 20, 2) := by decide +kernel
theorem dL_law_963 : decode cL_law 963 = .ok (.iload 22, 2) := by decide +kernel
theorem dL_law_965 : decode cL_law 965 = .ok (.ifCond .eq 7, 3) := by decide +kernel
theorem dL_law_968 : decode cL_law 968 = .ok (.iconst 1, 1) := by decide +kernel
theorem dL_law_969 : decode cL_law 969 = .ok (.goto 4, 3) := by decide +kernel
theorem dL_law_972 : decode cL_law 972 = .ok (.iconst 0, 1) := by decide +kernel
theorem dL_law_973 : decode cL_law 973 = .ok (.iadd, 1) := by decide +kernel
theorem dL_law_974 : decode cL_law 974 = .ok (.istore 20, 2) := by decide +kernel
theorem dL_law_976 : decode cL_law 976 = .ok (.iinc 21 1, 3) := by decide +kernel
theorem dL_law_979 : decode cL_law 979 = .ok (.goto (-111), 3) := by decide +kernel
theorem dL_law_982 : decode cL_law 982 = .ok (.aload_n 1, 1) := by decide +kernel
theorem dL_law_983 : decode cL_law 983 = .ok (.iload 16, 2) := by decide +kernel
theorem dL_law_985 : decode cL_law 985 = .ok (.invokevirtual 102, 3) := by decide +kernel
theorem dL_law_988 : decode cL_law 988 = .ok (.iload 20, 2) := by decide +kernel
theorem dL_law_990 : decode cL_law 990 = .ok (.if_icmp .eq 5, 3) := by decide +kernel
theorem dL_law_993 : decode cL_law 993 = .ok (.iconst 0, 1) := by decide +kernel
theorem dL_law_994 : decode cL_law 994 = .ok (.ireturn, 1) := by decide +kernel
theorem dL_law_995 : decode cL_law 995 = .ok (.iload 14, 2) := by decide +kernel
theorem dL_law_997 : decode cL_law 997 = .ok (.iload 20, 2) := by decide +kernel
theorem dL_law_999 : decode cL_law 999 = .ok (.iconst 1, 1) := by decide +kernel
theorem dL_law_1000 : decode cL_law 1000 = .ok (.if_icmp .ne 7, 3) := by decide +kernel
theorem dL_law_1003 : decode cL_law 1003 = .ok (.iconst 1, 1) := by decide +kernel
theorem dL_law_1004 : decode cL_law 1004 = .ok (.goto 4, 3) := by decide +kernel
theorem dL_law_1007 : decode cL_law 1007 = .ok (.iconst 0, 1) := by decide +kernel
theorem dL_law_1008 : decode cL_law 1008 = .ok (.iadd, 1) := by decide +kernel
theorem dL_law_1009 : decode cL_law 1009 = .ok (.istore 14, 2) := by decide +kernel
theorem dL_law_1011 : decode cL_law 1011 = .ok (.iinc 16 1, 3) := by decide +kernel
theorem dL_law_1014 : decode cL_law 1014 = .ok (.goto (-713), 3) := by decide +kernel
theorem dL_law_1017 : decode cL_law 1017 = .ok (.aload_n 1, 1) := by decide +kernel
theorem dL_law_1018 : decode cL_law 1018 = .ok (.iconst 5, 1) := by decide +kernel
theorem dL_law_1019 : decode cL_law 1019 = .ok (.invokevirtual 94, 3) := by decide +kernel
theorem dL_law_1022 : decode cL_law 1022 = .ok (.istore 16, 2) := by decide +kernel
theorem dL_law_1024 : decode cL_law 1024 = .ok (.aload_n 1, 1) := by decide +kernel
theorem dL_law_1025 : decode cL_law 1025 = .ok (.bipush 6, 2) := by decide +kernel
theorem dL_law_1027 : decode cL_law 1027 = .ok (.invokevirtual 94, 3) := by decide +kernel
theorem dL_law_1030 : decode cL_law 1030 = .ok (.istore 17, 2) := by decide +kernel
theorem dL_law_1032 : decode cL_law 1032 = .ok (.iload 5, 2) := by decide +kernel
theorem dL_law_1034 : decode cL_law 1034 = .ok (.ifCond .le 24, 3) := by decide +kernel
theorem dL_law_1037 : decode cL_law 1037 = .ok (.iload 14, 2) := by decide +kernel
theorem dL_law_1039 : decode cL_law 1039 = .ok (.iconst 1, 1) := by decide +kernel
theorem dL_law_1040 : decode cL_law 1040 = .ok (.if_icmp .lt 107, 3) := by decide +kernel
theorem dL_law_1043 : decode cL_law 1043 = .ok (.aload_n 1, 1) := by decide +kernel
theorem dL_law_1044 : decode cL_law 1044 = .ok (.invokevirtual 105, 3) := by decide +kernel
theorem dL_law_1047 : decode cL_law 1047 = .ok (.iload 15, 2) := by decide +kernel
theorem dL_law_1049 : decode cL_law 1049 = .ok (.i2d, 1) := by decide +kernel
theorem dL_law_1050 : decode cL_law 1050 = .ok (.iload 5, 2) := by decide +kernel
theorem dL_law_1052 : decode cL_law 1052 = .ok (.i2d, 1) := by decide +kernel
theorem dL_law_1053 : decode cL_law 1053 = .ok (.ddiv, 1) := by decide +kernel
theorem dL_law_1054 : decode cL_law 1054 = .ok (.dcmp .l, 1) := by decide +kernel
theorem dL_law_1055 : decode cL_law 1055 = .ok (.ifCond .ne 92, 3) := by decide +kernel
theorem dL_law_1058 : decode cL_law 1058 = .ok (.iload 17, 2) := by decide +kernel
theorem dL_law_1060 : decode cL_law 1060 = .ok (.ifCond .ge 7, 3) := by decide +kernel
theorem dL_law_1063 : decode cL_law 1063 = .ok (.iconst 1, 1) := by decide +kernel
theorem dL_law_1064 : decode cL_law 1064 = .ok (.goto 4, 3) := by decide +kernel
theorem dL_law_1067 : decode cL_law 1067 = .ok (.iconst 0, 1) := by decide +kernel
theorem dL_law_1068 : decode cL_law 1068 = .ok (.aload_n 1, 1) := by decide +kernel
theorem dL_law_1069 : decode cL_law 1069 = .ok (.iconst 3, 1) := by decide +kernel
theorem dL_law_1070 : decode cL_law 1070 = .ok (.invokevirtual 94, 3) := by decide +kernel
theorem dL_law_1073 : decode cL_law 1073 = .ok (.ifCond .ne 7, 3) := by decide +kernel
theorem dL_law_1076 : decode cL_law 1076 = .ok (.iconst 1, 1) := by decide +kernel
theorem dL_law_1077 : decode cL_law 1077 = .ok (.goto 4, 3) := by decide +kernel
theorem dL_law_1080 : decode cL_law 1080 = .ok (.iconst 0, 1) := by decide +kernel
theorem dL_law_1081 : decode cL_law 1081 = .ok (.if_icmp .ne 66, 3) := by decide +kernel
theorem dL_law_1084 : decode cL_law 1084 = .ok (.iload 16, 2) := by decide +kernel
theorem dL_law_1086 : decode cL_law 1086 = .ok (.ifCond .ge 7, 3) := by decide +kernel
theorem dL_law_1089 : decode cL_law 1089 = .ok (.iconst 1, 1) := by decide +kernel
theorem dL_law_1090 : decode cL_law 1090 = .ok (.goto 4, 3) := by decide +kernel
theorem dL_law_1093 : decode cL_law 1093 = .ok (.iconst 0, 1) := by decide +kernel
theorem dL_law_1094 : decode cL_law 1094 = .ok (.aload_n 1, 1) := by decide +kernel
theorem dL_law_1095 : decode cL_law 1095 = .ok (.iconst 3, 1) := by decide +kernel
theorem dL_law_1096 : decode cL_law 1096 = .ok (.invokevirtual 94, 3) := by decide +kernel
theorem dL_law_1099 : decode cL_law 1099 = .ok (.iload 5, 2) := by decide +kernel
theorem dL_law_1101 : decode cL_law 1101 = .ok (.if_icmp .ne 7, 3) := by decide +kernel
theorem dL_law_1104 : decode cL_law 1104 = .ok (.iconst 1, 1) := by decide +kernel
theorem dL_law_1105 : decode cL_law 1105 = .ok (.goto 4, 3) := by decide +kernel
theorem dL_law_1108 : decode cL_law 1108 = .ok (.iconst 0, 1) := by decide +kernel
theorem dL_law_1109 : decode cL_law 1109 = .ok (.if_icmp .ne 38, 3) := by decide +kernel
theorem dL_law_1112 : decode cL_law 1112 = .ok (.iload 17, 2) := by decide +kernel
theorem dL_law_1114 : decode cL_law 1114 = .ok (.ifCond .lt 13, 3) := by decide +kernel
theorem dL_law_1117 : decode cL_law 1117 = .ok (.aload_n 1, 1) := by decide +kernel
theorem dL_law_1118 : decode cL_law 1118 = .ok (.iload 17, 2) := by decide +kernel
theorem dL_law_1120 : decode cL_law 1120 = .ok (.invokevirtual 102, 3) := by decide +kernel
theorem dL_law_1123 : decode cL_law 1123 = .ok (.iconst 1, 1) := by decide +kernel
theorem dL_law_1124 : decode cL_law 1124 = .ok (.if_icmp .ne 23, 3) := by decide +kernel
theorem dL_law_1127 : decode cL_law 1127 = .ok (.iload 17, 2) := by decide +kernel
theorem dL_law_1129 : decode cL_law 1129 = .ok (.ifCond .ge 20, 3) := by decide +kernel
theorem dL_law_1132 : decode cL_law 1132 = .ok (.iload 16, 2) := by decide +kernel
theorem dL_law_1134 : decode cL_law 1134 = .ok (.ifCond .lt 15, 3) := by decide +kernel
theorem dL_law_1137 : decode cL_law 1137 = .ok (.aload_n 1, 1) := by decide +kernel
theorem dL_law_1138 : decode cL_law 1138 = .ok (.iload 16, 2) := by decide +kernel
theorem dL_law_1140 : decode cL_law 1140 = .ok (.invokevirtual 102, 3) := by decide +kernel
theorem dL_law_1143 : decode cL_law 1143 = .ok (.iconst 1, 1) := by decide +kernel
theorem dL_law_1144 : decode cL_law 1144 = .ok (.if_icmp .eq 5, 3) := by decide +kernel
theorem dL_law_1147 : decode cL_law 1147 = .ok (.iconst 0, 1) := by decide +kernel
theorem dL_law_1148 : decode cL_law 1148 = .ok (.ireturn, 1) := by decide +kernel
theorem dL_law_1149 : decode cL_law 1149 = .ok (.iload 5, 2) := by decide +kernel
theorem dL_law_1151 : decode cL_law 1151 = .ok (.ifCond .le 70, 3) := by decide +kernel
theorem dL_law_1154 : decode cL_law 1154 = .ok (.iload_n 3, 1) := by decide +kernel
theorem dL_law_1155 : decode cL_law 1155 = .ok (.bipush 7, 2) := by decide +kernel
theorem dL_law_1157 : decode cL_law 1157 = .ok (.irem, 1) := by decide +kernel
theorem dL_law_1158 : decode cL_law 1158 = .ok (.ifCond .ne 63, 3) := by decide +kernel
theorem dL_law_1161 : decode cL_law 1161 = .ok (.aload_n 1, 1) := by decide +kernel
theorem dL_law_1162 : decode cL_law 1162 = .ok (.iload 4, 2) := by decide +kernel
theorem dL_law_1164 : decode cL_law 1164 = .ok (.iload 5, 2) := by decide +kernel
theorem dL_law_1166 : decode cL_law 1166 = .ok (.invokestatic 15, 3) := by decide +kernel
theorem dL_law_1169 : decode cL_law 1169 = .ok (.iconst 1, 1) := by decide +kernel
theorem dL_law_1170 : decode cL_law 1170 = .ok (.iload 4, 2) := by decide +kernel
theorem dL_law_1172 : decode cL_law 1172 = .ok (.bipush 6, 2) := by decide +kernel
theorem dL_law_1174 : decode cL_law 1174 = .ok (.ishr, 1) := by decide +kernel
theorem dL_law_1175 : decode cL_law 1175 = .ok (.bipush 60, 2) := by decide +kernel
theorem dL_law_1177 : decode cL_law 1177 = .ok (.invokestatic 15, 3) := by decide +kernel
theorem dL_law_1180 : decode cL_law 1180 = .ok (.iadd, 1) := by decide +kernel
theorem dL_law_1181 : decode cL_law 1181 = .ok (.invokevirtual 109, 3) := by decide +kernel
theorem dL_law_1184 : decode cL_law 1184 = .ok (.istore 18, 2) := by decide +kernel
theorem dL_law_1186 : decode cL_law 1186 = .ok (.iload 18, 2) := by decide +kernel
theorem dL_law_1188 : decode cL_law 1188 = .ok (.ifCond .lt 31, 3) := by decide +kernel
theorem dL_law_1191 : decode cL_law 1191 = .ok (.iload 18, 2) := by decide +kernel
theorem dL_law_1193 : decode cL_law 1193 = .ok (.bipush 33, 2) := by decide +kernel
theorem dL_law_1195 : decode cL_law 1195 = .ok (.if_icmp .gt 24, 3) := by decide +kernel
theorem dL_law_1198 : decode cL_law 1198 = .ok (.iload 18, 2) := by decide +kernel
theorem dL_law_1200 : decode cL_law 1200 = .ok (.bipush 10, 2) := by decide +kernel
theorem dL_law_1202 : decode cL_law 1202 = .ok (.irem, 1) := by decide +kernel
theorem dL_law_1203 : decode cL_law 1203 = .ok (.iconst 3, 1) := by decide +kernel
theorem dL_law_1204 : decode cL_law 1204 = .ok (.if_icmp .gt 15, 3) := by decide +kernel
theorem dL_law_1207 : decode cL_law 1207 = .ok (.aload_n 1, 1) := by decide +kernel
theorem dL_law_1208 : decode cL_law 1208 = .ok (.iconst 0, 1) := by decide +kernel
theorem dL_law_1209 : decode cL_law 1209 = .ok (.invokevirtual 94, 3) := by decide +kernel
theorem dL_law_1212 : decode cL_law 1212 = .ok (.iload 11, 2) := by decide +kernel
theorem dL_law_1214 : decode cL_law 1214 = .ok (.iconst 1, 1) := by decide +kernel
theorem dL_law_1215 : decode cL_law 1215 = .ok (.iadd, 1) := by decide +kernel
theorem dL_law_1216 : decode cL_law 1216 = .ok (.if_icmp .eq 5, 3) := by decide +kernel
theorem dL_law_1219 : decode cL_law 1219 = .ok (.iconst 0, 1) := by decide +kernel
theorem dL_law_1220 : decode cL_law 1220 = .ok (.ireturn, 1) := by decide +kernel
theorem dL_law_1221 : decode cL_law 1221 = .ok (.iinc 3 1, 3) := by decide +kernel
theorem dL_law_1224 : decode cL_law 1224 = .ok (.goto (-1202), 3) := by decide +kernel
theorem dL_law_1227 : decode cL_law 1227 = .ok (.aload_n 2, 1) := by decide +kernel
theorem dL_law_1228 : decode cL_law 1228 = .ok (.aload_n 1, 1) := by decide +kernel
theorem dL_law_1229 : decode cL_law 1229 = .ok (.invokevirtual 112, 3) := by decide +kernel
theorem dL_law_1232 : decode cL_law 1232 = .ok (.ireturn, 1) := by decide +kernel
end
section
/-- the class of the arrays over arrays of t is known (mine: the printed rows below speak of it) -/
def va_AOA (t : FieldType) (U : State) : Prop := (Cond.arrayOver (.array t)).before #[] U = true
theorem va_AOA.use {t : FieldType} {A : Array Value} {U : State} (h : va_AOA t U) : (Cond.arrayOver (.array t)).before A U = true := h
/-! ===== BEGIN new T[n][m]: the outer array a place, the inner ones among the pooled ===== -/
/-- f, but v at every address of l -/
def vr_up {α : Type} (f : Nat → α) (l : List Nat) (v : α) : Nat → α := fun a => if a ∈ l then v else f a
theorem vr_up_in {α : Type} {f : Nat → α} {l : List Nat} {v : α} {a : Nat} (h : a ∈ l) : vr_up f l v a = v := if_pos h
theorem vr_up_ne {α : Type} {f : Nat → α} {l : List Nat} {v : α} {a : Nat} (h : a ∉ l) : vr_up f l v a = f a := if_neg h
theorem vr_rows {L l : List Nat} {f : Nat → va_E} {e : va_E} (h : ∀ a, a ∈ l → a ∉ L) : va_pl L f ++ l.map (fun a => (a, e)) = va_pl (L ++ l) (vr_up f l e) := by
  unfold va_pl
  rw [List.map_append]
  congr 1
  · apply List.map_congr_left
    intro a ha
    rw [vr_up_ne (fun q => h a q ha)]
  · apply List.map_congr_left
    intro a ha
    rw [vr_up_in ha]
theorem vr_lay {X rows : va_W} {x : Nat × va_E} {pl : va_W} {D : va_G} {cl : List vw_C} {H : Heap} (hP : va_P D cl (((X ++ pl) ++ [x]) ++ rows) H) : va_P D cl ((X ++ [x]) ++ (pl ++ rows)) H := by
  rw [List.append_assoc (X ++ pl)] at hP
  have h := va_P.swap hP
  rw [← List.append_assoc X] at h
  have h2 := va_P.swap h
  rw [List.append_assoc (X ++ [x])] at h2
  exact h2
theorem vr_layD {X rows : va_W} {x : Nat × va_E} {pl : va_W} {A : Nat → Prop} (hD : va_D A (((X ++ pl) ++ [x]) ++ rows)) : va_D A ((X ++ [x]) ++ (pl ++ rows)) := by
  rw [List.append_assoc (X ++ pl)] at hD
  have h := va_D.swap hD
  rw [← List.append_assoc X] at h
  have h2 := va_D.swap h
  rw [List.append_assoc (X ++ [x])] at h2
  exact h2
theorem vr_outer (c : ClassId) (N h0 : Nat) : ∀ i : Nat, Jvm.Free.Multi.outerC c N h0 i = arrV c N (fun j => va_rf (if j < i then some (h0 + 1 + j) else none))
  | 0 => by
    show ({ cls := c, slots := Array.replicate N .null, vm := .none } : Cell) = _
    rw [arrV_new]
    refine congrArg (arrV c N) (funext fun j => ?_)
    simp [va_rf]
  | i + 1 => by
    show (Jvm.Free.Multi.outerC c N h0 i).setSlot i (.ref (h0 + 1 + i)) = _
    rw [vr_outer c N h0 i, arrV_store]
    refine congrArg (arrV c N) (funext fun j => ?_)
    by_cases e : j = i
    · subst e
      simp [updV, va_rf]
    · by_cases h : j < i
      · simp [updV, e, h, Nat.lt_succ_of_lt h]
      · simp [updV, e, h, show ¬ j < i + 1 by omega]
section VGM
variable {p : Program} {l : Launch} {e : Env} {R : Room} {s : State} {m : MethodId} {args : Array Value} {below : List Frame} {meth : Method} {c : Code} {H : Heap} {locs : List Loc} {cells slots : Nat} {Q : State → Prop}
variable {cc : ByteArray} {pc : Nat} {ls : Array Slot} {rest : List Value} {D : va_G} {cl : List vw_C} {A : Nat → Prop} {a : Nat} {tys : List (ClassId × FieldType)} {ws : va_W} {H0 : Heap}
theorem va_mna {X : va_W} {L : List Nat} {f : Nat → va_E} {cc : ByteArray} (hexec : p.tables.exec = Jvm.exec) (hb : c.code = cc) {own : String} {index : Nat} {ty : FieldType} {cy : ClassId} (hown : s.vm.findClass own = some m.cls) (hclink : (Cond.classLink own index ("[" ++ (FieldType.array ty).toString)).before args s = true) (hover : va_AOA ty s) (harr : (Cond.arrayClass ty).before args s = true) (hcy : s.vm.findClass (FieldType.array ty).toString = some cy)
    (hK : va_K D cl tys s) (hP : va_P D cl (X ++ va_pl L f) H) (hD : va_D A (X ++ va_pl L f)) (hS : va_S A H0 H locs) (hA : ∀ q, H0.size ≤ q → A q) {n k : Int32} {N' K' : Nat} {z : vp_A} (hn : ¬ n < 0) (hk : ¬ k < 0) (hN : n.toNatClampNeg = N') (hM : k.toNatClampNeg = K')
    (hb1 : N' * 4 ≤ 536870912) (hb2 : K' * componentBytes ty ≤ 536870912) (hb3 : K' ≤ 536870912) (hdf : fits ty (defaultValue ty) = true) (hdd : (defaultValue ty).isDefault = true) (hcells : cells + (1 + N') ≤ R.cells) (hslots : slots + (N' + N' * K') ≤ R.slots) (hz : ∀ c : ClassId, Jvm.Free.Multi.innerC c K' (defaultValue ty) = vp_cell c z) (hdg : decode cc pc = .ok (.multianewarray index 2, 4))
    (kk : ∀ (q : Nat) (r : Nat → Nat) (cA : ClassId) (H1 : Heap), (∀ i j : Nat, i < N' → j < N' → r i = r j → i = j) → (∀ i : Nat, i < N' → r i ∉ L) → va_K D cl (tys ++ [(cA, .array ty)]) s →
      va_P D cl ((X ++ [(q, .inl (cA, N', .inr (.inr (.inr (.inr (fun i => if i < N' then some (r i) else none))))))]) ++ va_pl (L ++ (List.range N').map r) (vr_up f ((List.range N').map r) (.inl (cy, z)))) H1 → va_D A ((X ++ [(q, .inl (cA, N', .inr (.inr (.inr (.inr (fun i => if i < N' then some (r i) else none))))))]) ++ va_pl (L ++ (List.range N').map r) (vr_up f ((List.range N').map r) (.inl (cy, z)))) → va_S A H0 H1 locs →
      W p l e R s m args below meth c H1 locs (cells + 1 + N') (slots + N' + N' * K') Q (F0 m (pc + 4) ls (.ref q :: rest))) : W p l e R s m args below meth c H locs cells slots Q (F0 m pc ls (.int k :: .int n :: rest)) := by
  subst hN
  subst hM
  intro T hT Xs
  obtain ⟨vm₁, cA, comp, -, fA, fC, hO, -, X', step⟩ := Xs.multianewarray2F hexec hown hclink (va_AOA.use hover) harr (g := F0 m pc ls (.int k :: .int n :: rest)) rfl (by rw [hb]; exact hdg) rfl hn hk hb1 hb2 hb3 hdf hdd hcells hslots
  have ec : some cy = some comp := hcy.symm.trans fC
  cases ec
  generalize hF : Jvm.Free.Multi.fill (T.setVm vm₁) cA cy n.toNatClampNeg k.toNatClampNeg (defaultValue ty) n.toNatClampNeg = F at X' step
  have hTh : (T.setVm vm₁).heap = H := hT
  obtain ⟨f1, f2, -, -⟩ := Jvm.Free.Multi.fill_facts (T.setVm vm₁) cA cy n.toNatClampNeg k.toNatClampNeg (defaultValue ty) n.toNatClampNeg
  rw [hF, hTh] at f1 f2
  have hold : ∀ x : Nat, x < H.size → F.heap[x]? = H[x]? := fun x hx => by
    have := Jvm.Free.Multi.fill_old (T.setVm vm₁) cA cy n.toNatClampNeg k.toNatClampNeg (defaultValue ty) (a := x) (by rw [hTh]; exact hx) n.toNatClampNeg
    rw [hF, hTh] at this
    exact this
  have hrow : ∀ j : Nat, j < n.toNatClampNeg → F.heap[H.size + 1 + j]? = some (vp_cell cy z) := fun j hj => by
    have := Jvm.Free.Multi.fill_inner (T.setVm vm₁) cA cy n.toNatClampNeg k.toNatClampNeg (defaultValue ty) n.toNatClampNeg j hj
    rw [hF, hTh, hz] at this
    exact this
  have hout : Jvm.Free.Multi.outerC cA n.toNatClampNeg H.size n.toNatClampNeg = vp_cell cA (n.toNatClampNeg, .inr (.inr (.inr (.inr (fun i => if i < n.toNatClampNeg then some (H.size + 1 + i) else none))))) := by
    rw [vp_cell_q]
    exact vr_outer cA n.toNatClampNeg H.size n.toNatClampNeg
  rw [hout] at f2
  have hlt : ∀ a, a ∈ L → a < H.size := fun a ha => by
    obtain ⟨k9, hk9⟩ := va_pl_get (X := X) (f := f) ha
    exact (hP k9 _ hk9).lt
  have hnl : ∀ i : Nat, i < n.toNatClampNeg → H.size + 1 + i ∉ L := fun i _ h => by
    have := hlt _ h
    omega
  have hnm : ∀ a, a ∈ (List.range n.toNatClampNeg).map (fun i => H.size + 1 + i) → a ∉ L := fun a ha h => by
    obtain ⟨i, -, rfl⟩ := List.mem_map.mp ha
    have := hlt _ h
    omega
  have hP0 : va_P D cl (X ++ va_pl L f) F.heap := hP.kept (fun k9 x hx => hold x.1 ((hP k9 x hx).lt))
  have hP1 : va_P D cl ((X ++ va_pl L f) ++ [(H.size, .inl (cA, n.toNatClampNeg, .inr (.inr (.inr (.inr (fun i => if i < n.toNatClampNeg then some (H.size + 1 + i) else none))))))]) F.heap := hP0.app (fun k9 x hx => by
    have h0 : k9 < 1 := (List.getElem?_eq_some_iff.mp hx).1
    rw [show k9 = 0 by omega] at hx
    cases hx
    exact f2)
  have hP2 : va_P D cl (((X ++ va_pl L f) ++ [(H.size, .inl (cA, n.toNatClampNeg, .inr (.inr (.inr (.inr (fun i => if i < n.toNatClampNeg then some (H.size + 1 + i) else none))))))]) ++ ((List.range n.toNatClampNeg).map (fun i => H.size + 1 + i)).map (fun a => (a, .inl (cy, z)))) F.heap := hP1.app (fun k9 x hx => by
    obtain ⟨a, ha, rfl⟩ := List.mem_map.mp (List.mem_of_getElem? hx)
    obtain ⟨i, hi, rfl⟩ := List.mem_map.mp ha
    exact hrow i (List.mem_range.mp hi))
  have hD2 : va_D A (((X ++ va_pl L f) ++ [(H.size, .inl (cA, n.toNatClampNeg, .inr (.inr (.inr (.inr (fun i => if i < n.toNatClampNeg then some (H.size + 1 + i) else none))))))]) ++ ((List.range n.toNatClampNeg).map (fun i => H.size + 1 + i)).map (fun a => (a, .inl (cy, z)))) := by
    have hD1 := hD.push (e := .inl (cA, n.toNatClampNeg, .inr (.inr (.inr (.inr (fun i => if i < n.toNatClampNeg then some (H.size + 1 + i) else none)))))) hP rfl (hA _ hS.1)
    generalize hW1 : (X ++ va_pl L f) ++ [(H.size, .inl (cA, n.toNatClampNeg, .inr (.inr (.inr (.inr (fun i => if i < n.toNatClampNeg then some (H.size + 1 + i) else none))))))] = W1 at hD1 hP1 ⊢
    have hle : ∀ (k9 : Nat) (x : Nat × va_E), W1[k9]? = some x → x.1 ≤ H.size := fun k9 x hx => by
      rw [← hW1] at hx
      by_cases hl : k9 < (X ++ va_pl L f).length
      · rw [List.getElem?_append_left hl] at hx
        exact Nat.le_of_lt ((hP k9 x hx).lt)
      · rw [List.getElem?_append_right (by omega)] at hx
        have h0 : k9 - (X ++ va_pl L f).length < 1 := (List.getElem?_eq_some_iff.mp hx).1
        rw [show k9 - (X ++ va_pl L f).length = 0 by omega] at hx
        cases hx
        exact Nat.le_refl _
    have hr : ∀ (k9 : Nat) (x : Nat × va_E), (((List.range n.toNatClampNeg).map (fun i => H.size + 1 + i)).map (fun a => ((a, .inl (cy, z)) : Nat × va_E)))[k9]? = some x → x.1 = H.size + 1 + k9 := fun k9 x hx => by
      rw [List.getElem?_map, List.getElem?_map] at hx
      by_cases h9 : k9 < n.toNatClampNeg
      · rw [List.getElem?_range h9] at hx
        cases hx
        rfl
      · have hn0 : (List.range n.toNatClampNeg)[k9]? = none := List.getElem?_eq_none (by rw [List.length_range]; omega)
        rw [hn0] at hx
        cases hx
    refine ⟨fun i j x y hi hj hxy => ?_, fun k9 x hx => ?_⟩
    · by_cases h1 : i < W1.length <;> by_cases h2 : j < W1.length
      · rw [List.getElem?_append_left h1] at hi
        rw [List.getElem?_append_left h2] at hj
        exact hD1.1 i j x y hi hj hxy
      · rw [List.getElem?_append_left h1] at hi
        rw [List.getElem?_append_right (by omega)] at hj
        have := hle _ _ hi
        have := hr _ _ hj
        omega
      · rw [List.getElem?_append_right (by omega)] at hi
        rw [List.getElem?_append_left h2] at hj
        have := hle _ _ hj
        have := hr _ _ hi
        omega
      · rw [List.getElem?_append_right (by omega)] at hi hj
        have := hr _ _ hi
        have := hr _ _ hj
        omega
    · by_cases h1 : k9 < W1.length
      · rw [List.getElem?_append_left h1] at hx
        exact hD1.2 k9 x hx
      · rw [List.getElem?_append_right (by omega)] at hx
        have := hr _ _ hx
        exact hA _ (by have := hS.1; omega)
  have hAr : ArrOfT s cA (.array ty) := fun N9 z9 => by
    obtain ⟨-, k9, hk9, cm9, hkk9⟩ := (hO 0 0 0).1
    exact ⟨(fun q hq => by cases hq), k9, hk9, cm9, hkk9⟩
  have hK2 : va_K D cl (tys ++ [(cA, .array ty)]) s := ⟨hK.1, fun k9 x hx => by
    by_cases hl : k9 < tys.length
    · rw [List.getElem?_append_left hl] at hx
      exact hK.2 k9 x hx
    · rw [List.getElem?_append_right (by omega)] at hx
      have h0 : k9 - tys.length < 1 := (List.getElem?_eq_some_iff.mp hx).1
      rw [show k9 - tys.length = 0 by omega] at hx
      cases hx
      exact ⟨hAr, fA⟩⟩
  obtain ⟨t, a1, b1⟩ := kk H.size (fun i => H.size + 1 + i) cA F.heap (fun i j _ _ h => by have h9 : H.size + 1 + i = H.size + 1 + j := h; omega) hnl hK2 (by rw [← vr_rows hnm]; exact vr_lay hP2) (by rw [← vr_rows hnm]; exact vr_layD hD2) ⟨by rw [f1]; have := hS.1; omega, fun x h1 h2 => (hold x (Nat.lt_of_lt_of_le h1 hS.1)).trans (hS.2.1 x h1 h2), hS.2.2⟩ F rfl X'
  refine ⟨t, step t ?_, b1⟩
  have e : T.heap.size = H.size := by rw [hT]
  rw [e]
  exact a1
end VGM
/-! ===== END ===== -/
end
