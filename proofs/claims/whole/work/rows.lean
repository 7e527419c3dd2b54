section
-- ===== PART A: goes FIRST, ahead of the names: the tables' words, and 'selects' of the private methods out of them =====
/-- a private method of a class that the tables say can be made, by its rows of tables_1 -/
def lw_okq (q : MethodName × Nat) : Prop := (q.1.cls ≠ "java/lang/invoke/MethodHandle" ∧ q.1.cls ≠ "java/lang/invoke/VarHandle") ∧ Cond.instantiable q.1.cls q.2 ∈ tables_1 ∧ Cond.privateMethod q.1 ∈ tables_1 ∧ Cond.instanceMethod q.1 ∈ tables_1
theorem lw_p0 : lw_okq (⟨"CoracleRace", "countIn", "(LCoracleRace$Fleet;I)I"⟩, 3) := ⟨⟨by decide +kernel, by decide +kernel⟩, List.mem_of_getElem? (i := 16) (by decide +kernel), List.mem_of_getElem? (i := 141) (by decide +kernel), List.mem_of_getElem? (i := 142) (by decide +kernel)⟩
theorem lw_p1 : lw_okq (⟨"CoracleRace", "digestWith", "(JLCoracleRace$Boat;)J"⟩, 3) := ⟨⟨by decide +kernel, by decide +kernel⟩, List.mem_of_getElem? (i := 16) (by decide +kernel), List.mem_of_getElem? (i := 169) (by decide +kernel), List.mem_of_getElem? (i := 170) (by decide +kernel)⟩
theorem lw_p2 : lw_okq (⟨"java/lang/Throwable", "fillInStackTrace", "(I)Ljava/lang/Throwable;"⟩, 6) := ⟨⟨by decide +kernel, by decide +kernel⟩, List.mem_of_getElem? (i := 236) (by decide +kernel), List.mem_of_getElem? (i := 234) (by decide +kernel), List.mem_of_getElem? (i := 235) (by decide +kernel)⟩
theorem lw_p3 : lw_okq (⟨"CoracleRace$Boat", "strokeIn", "(I)I"⟩, 12) := ⟨⟨by decide +kernel, by decide +kernel⟩, List.mem_of_getElem? (i := 56) (by decide +kernel), List.mem_of_getElem? (i := 421) (by decide +kernel), List.mem_of_getElem? (i := 422) (by decide +kernel)⟩
theorem lw_p4 : lw_okq (⟨"CoracleRace$Boat", "forceOf", "(I)I"⟩, 12) := ⟨⟨by decide +kernel, by decide +kernel⟩, List.mem_of_getElem? (i := 56) (by decide +kernel), List.mem_of_getElem? (i := 428) (by decide +kernel), List.mem_of_getElem? (i := 429) (by decide +kernel)⟩
theorem lw_p5 : lw_okq (⟨"CoracleRace$Boat", "pushOf", "(I)I"⟩, 12) := ⟨⟨by decide +kernel, by decide +kernel⟩, List.mem_of_getElem? (i := 56) (by decide +kernel), List.mem_of_getElem? (i := 432) (by decide +kernel), List.mem_of_getElem? (i := 433) (by decide +kernel)⟩
theorem lw_p6 : lw_okq (⟨"CoracleRace$Boat", "drift", "()V"⟩, 12) := ⟨⟨by decide +kernel, by decide +kernel⟩, List.mem_of_getElem? (i := 56) (by decide +kernel), List.mem_of_getElem? (i := 439) (by decide +kernel), List.mem_of_getElem? (i := 440) (by decide +kernel)⟩
theorem lw_p7 : lw_okq (⟨"CoracleRace$Boat", "advance", "(LCoracleRace$River;I)V"⟩, 12) := ⟨⟨by decide +kernel, by decide +kernel⟩, List.mem_of_getElem? (i := 56) (by decide +kernel), List.mem_of_getElem? (i := 444) (by decide +kernel), List.mem_of_getElem? (i := 445) (by decide +kernel)⟩
theorem lw_p8 : lw_okq (⟨"CoracleRace$Boat", "soak", "(I)V"⟩, 12) := ⟨⟨by decide +kernel, by decide +kernel⟩, List.mem_of_getElem? (i := 56) (by decide +kernel), List.mem_of_getElem? (i := 458) (by decide +kernel), List.mem_of_getElem? (i := 459) (by decide +kernel)⟩
theorem lw_p9 : lw_okq (⟨"CoracleRace", "placeWith", "(III)I"⟩, 3) := ⟨⟨by decide +kernel, by decide +kernel⟩, List.mem_of_getElem? (i := 16) (by decide +kernel), List.mem_of_getElem? (i := 498) (by decide +kernel), List.mem_of_getElem? (i := 499) (by decide +kernel)⟩
theorem lw_p10 : lw_okq (⟨"CoracleRaceModel", "no", "(I)I"⟩, 9) := ⟨⟨by decide +kernel, by decide +kernel⟩, List.mem_of_getElem? (i := 502) (by decide +kernel), List.mem_of_getElem? (i := 606) (by decide +kernel), List.mem_of_getElem? (i := 607) (by decide +kernel)⟩
theorem lw_p11 : lw_okq (⟨"CoracleRaceModel", "isBoat", "(I)Z"⟩, 9) := ⟨⟨by decide +kernel, by decide +kernel⟩, List.mem_of_getElem? (i := 502) (by decide +kernel), List.mem_of_getElem? (i := 622) (by decide +kernel), List.mem_of_getElem? (i := 623) (by decide +kernel)⟩
theorem lw_p12 : lw_okq (⟨"CoracleRaceModel", "boatTold", "(II)I"⟩, 9) := ⟨⟨by decide +kernel, by decide +kernel⟩, List.mem_of_getElem? (i := 502) (by decide +kernel), List.mem_of_getElem? (i := 643) (by decide +kernel), List.mem_of_getElem? (i := 644) (by decide +kernel)⟩
theorem lw_p13 : lw_okq (⟨"CoracleRaceModel", "rankOf", "(I)I"⟩, 9) := ⟨⟨by decide +kernel, by decide +kernel⟩, List.mem_of_getElem? (i := 502) (by decide +kernel), List.mem_of_getElem? (i := 674) (by decide +kernel), List.mem_of_getElem? (i := 675) (by decide +kernel)⟩
theorem lw_p14 : lw_okq (⟨"CoracleRaceModel", "isAhead", "(II)Z"⟩, 9) := ⟨⟨by decide +kernel, by decide +kernel⟩, List.mem_of_getElem? (i := 502) (by decide +kernel), List.mem_of_getElem? (i := 678) (by decide +kernel), List.mem_of_getElem? (i := 679) (by decide +kernel)⟩
theorem lw_p15 : lw_okq (⟨"CoracleRaceModel$State", "go", "(I)V"⟩, 12) := ⟨⟨by decide +kernel, by decide +kernel⟩, List.mem_of_getElem? (i := 508) (by decide +kernel), List.mem_of_getElem? (i := 691) (by decide +kernel), List.mem_of_getElem? (i := 692) (by decide +kernel)⟩
def lw_privs_1 : List (MethodName × Nat) := [(⟨"CoracleRace", "countIn", "(LCoracleRace$Fleet;I)I"⟩, 3), (⟨"CoracleRace", "digestWith", "(JLCoracleRace$Boat;)J"⟩, 3), (⟨"java/lang/Throwable", "fillInStackTrace", "(I)Ljava/lang/Throwable;"⟩, 6), (⟨"CoracleRace$Boat", "strokeIn", "(I)I"⟩, 12), (⟨"CoracleRace$Boat", "forceOf", "(I)I"⟩, 12), (⟨"CoracleRace$Boat", "pushOf", "(I)I"⟩, 12), (⟨"CoracleRace$Boat", "drift", "()V"⟩, 12), (⟨"CoracleRace$Boat", "advance", "(LCoracleRace$River;I)V"⟩, 12), (⟨"CoracleRace$Boat", "soak", "(I)V"⟩, 12), (⟨"CoracleRace", "placeWith", "(III)I"⟩, 3), (⟨"CoracleRaceModel", "no", "(I)I"⟩, 9), (⟨"CoracleRaceModel", "isBoat", "(I)Z"⟩, 9), (⟨"CoracleRaceModel", "boatTold", "(II)I"⟩, 9), (⟨"CoracleRaceModel", "rankOf", "(I)I"⟩, 9), (⟨"CoracleRaceModel", "isAhead", "(II)Z"⟩, 9), (⟨"CoracleRaceModel$State", "go", "(I)V"⟩, 12)]
theorem lw_r1 : ∀ q ∈ lw_privs_1, lw_okq q := List.forall_mem_cons.mpr ⟨lw_p0, List.forall_mem_cons.mpr ⟨lw_p1, List.forall_mem_cons.mpr ⟨lw_p2, List.forall_mem_cons.mpr ⟨lw_p3, List.forall_mem_cons.mpr ⟨lw_p4, List.forall_mem_cons.mpr ⟨lw_p5, List.forall_mem_cons.mpr ⟨lw_p6, List.forall_mem_cons.mpr ⟨lw_p7, List.forall_mem_cons.mpr ⟨lw_p8, List.forall_mem_cons.mpr ⟨lw_p9, List.forall_mem_cons.mpr ⟨lw_p10, List.forall_mem_cons.mpr ⟨lw_p11, List.forall_mem_cons.mpr ⟨lw_p12, List.forall_mem_cons.mpr ⟨lw_p13, List.forall_mem_cons.mpr ⟨lw_p14, List.forall_mem_cons.mpr ⟨lw_p15, fun _ h => absurd h List.not_mem_nil⟩⟩⟩⟩⟩⟩⟩⟩⟩⟩⟩⟩⟩⟩⟩⟩
theorem lw_p16 : lw_okq (⟨"CoracleRaceModel$State", "paddles", "(I)I"⟩, 12) := ⟨⟨by decide +kernel, by decide +kernel⟩, List.mem_of_getElem? (i := 508) (by decide +kernel), List.mem_of_getElem? (i := 695) (by decide +kernel), List.mem_of_getElem? (i := 696) (by decide +kernel)⟩
theorem lw_p17 : lw_okq (⟨"CoracleRaceModel$State", "drift", "(I)V"⟩, 12) := ⟨⟨by decide +kernel, by decide +kernel⟩, List.mem_of_getElem? (i := 508) (by decide +kernel), List.mem_of_getElem? (i := 706) (by decide +kernel), List.mem_of_getElem? (i := 707) (by decide +kernel)⟩
theorem lw_p18 : lw_okq (⟨"CoracleRaceModel$State", "stopsAt", "(II)I"⟩, 12) := ⟨⟨by decide +kernel, by decide +kernel⟩, List.mem_of_getElem? (i := 508) (by decide +kernel), List.mem_of_getElem? (i := 710) (by decide +kernel), List.mem_of_getElem? (i := 711) (by decide +kernel)⟩
theorem lw_p19 : lw_okq (⟨"CoracleRaceModel$State", "soak", "(II)V"⟩, 12) := ⟨⟨by decide +kernel, by decide +kernel⟩, List.mem_of_getElem? (i := 508) (by decide +kernel), List.mem_of_getElem? (i := 714) (by decide +kernel), List.mem_of_getElem? (i := 715) (by decide +kernel)⟩
theorem lw_p20 : lw_okq (⟨"CoracleRaceModel$State", "copy", "([I[I)V"⟩, 12) := ⟨⟨by decide +kernel, by decide +kernel⟩, List.mem_of_getElem? (i := 508) (by decide +kernel), List.mem_of_getElem? (i := 727) (by decide +kernel), List.mem_of_getElem? (i := 728) (by decide +kernel)⟩
def lw_privs_2 : List (MethodName × Nat) := [(⟨"CoracleRaceModel$State", "paddles", "(I)I"⟩, 12), (⟨"CoracleRaceModel$State", "drift", "(I)V"⟩, 12), (⟨"CoracleRaceModel$State", "stopsAt", "(II)I"⟩, 12), (⟨"CoracleRaceModel$State", "soak", "(II)V"⟩, 12), (⟨"CoracleRaceModel$State", "copy", "([I[I)V"⟩, 12)]
theorem lw_r2 : ∀ q ∈ lw_privs_2, lw_okq q := List.forall_mem_cons.mpr ⟨lw_p16, List.forall_mem_cons.mpr ⟨lw_p17, List.forall_mem_cons.mpr ⟨lw_p18, List.forall_mem_cons.mpr ⟨lw_p19, List.forall_mem_cons.mpr ⟨lw_p20, fun _ h => absurd h List.not_mem_nil⟩⟩⟩⟩⟩
def lw_privs : List (MethodName × Nat) := lw_privs_1 ++ (lw_privs_2)
def lw_tbl : List Cond := k2_sels lw_privs ++ tables_1
theorem lw_privs_ok : ∀ q ∈ lw_privs, lw_okq q := by
  show ∀ q ∈ lw_privs_1 ++ (lw_privs_2), lw_okq q
  exact List.forall_mem_append.mpr ⟨lw_r1, lw_r2⟩
/-- the streams that the claim lets the run draw from -/
abbrev lw_cs : List Choice := [Jvm.Choice.named "NaN.bits"]
theorem lw_bits : nanBits ∈ lw_cs := by first | decide | exact List.mem_cons_self | simp [lw_cs, nanBits]
-- ===== end of PART A; then your names; then what follows =====
end
section
/-! ===== BEGIN words of one list among another's, by their places ===== -/
theorem goodIn_r {big : List Cond} (ws : List Cond) (ps : List Nat) (hp : ws = ps.filterMap (fun i => big[i]?)) (h : ws.all goodWord = true) : GoodIn big ws := by
  intro w hw
  have h1 := List.all_eq_true.mp h w hw
  rw [hp] at hw
  obtain ⟨i, -, hi⟩ := List.mem_filterMap.mp hw
  have hm : w ∈ big := by first | exact List.mem_of_getElem? hi | exact List.getElem?_mem hi
  exact ⟨hm, good_of_word h1⟩
theorem goodIn_app {big a b : List Cond} (ha : GoodIn big a) (hb : GoodIn big b) : GoodIn big (a ++ b) := fun w h => (List.mem_append.mp h).elim (ha w) (hb w)
theorem goodIn_ca {big a b : List Cond} {c : Cond} (ha : GoodIn big (c :: a)) (hb : GoodIn big b) : GoodIn big (c :: (a ++ b)) := fun w h => (List.mem_cons.mp h).elim (fun e => ha w (List.mem_cons.mpr (Or.inl e))) (fun h => (List.mem_append.mp h).elim (fun h => ha w (List.mem_cons.mpr (Or.inr h))) (hb w))
theorem goodIn_sub {big ws : List Cond} (hm : ∀ w ∈ ws, w ∈ big) (h : ws.all goodWord = true) : GoodIn big ws := fun w hw => ⟨hm w hw, good_of_word (List.all_eq_true.mp h w hw)⟩
/-! ===== END ===== -/

/-! ===== BEGIN exceptions that leave a method, and their catching by the caller (launches without stack traces) ===== -/
section VXA
/-! The laws vx_back, vx_callV, vx_callS, vx_callSW, vx_throw0, vx_throwS follow proofs of the library, with one case more: JvmDerived/Free/Laws.lean (Back.of_free), Shelf42/LK1.lean (callV, callS), Shelf/KitTraced.lean (throwNew0V, throwNewS). -/
/-- where a method has thrown q: the class by its name, the cell, what was written, the world -/
def vx_T (XC : String → State → State → Prop) (st : State) (q : Addr) (t : State) (mc ms : Nat) (free : Addr → Prop) : Prop :=
  ∃ (E : String) (ce : Cell) (L : List Loc), XC E st t ∧ t.heap[q]? = some ce ∧ ce.vm = .none ∧ st.vm.findClass E = some ce.cls ∧ st.WarmedH t.vm ∧ st.sameButNew ({ t with vm := st.vm } : State) L mc ms ∧ ∀ z ∈ L, free z.base
def vx_Q (Qc : Array Value → State → Outcome → State → Prop) (XC : String → State → State → Prop) (mc ms : Nat) (free : Addr → Prop) : Array Value → State → Outcome → State → Prop := fun a st o t =>
  (Qc a st o t ∧ ∃ L, FrameEnd st o t L mc ms ∧ ∀ q ∈ L, free q.base) ∨ ∃ q, o = .threw q ∧ vx_T XC st q t mc ms free
/-- a callee that returns or throws -/
def vx_Met (l : Launch) (y : MethodName) (ws : List Cond) (rm : Room) (Pc : Array Value → State → Prop) (Qc : Array Value → State → Outcome → State → Prop) (XC : String → State → State → Prop) (mc ms : Nat) (free : Addr → Prop) : Prop :=
  MetFree l y (headSpec ws rm) Pc (fun _ _ _ _ _ => True) (vx_Q Qc XC mc ms free)
def vx_Post (XC : String → State → State → Prop) (mc ms : Nat) (free : Addr → Prop) : Pt → Array Value → Addr → Pt → Prop := fun A a q B =>
  ∃ (g : JFrame) (mk : MethodId) (t : State) (L : List Loc) (E : String) (ce : Cell), B.U.heap = t.heap ∧ B.U.vm = t.vm ∧ XC E (A.U.calling g mk a) t ∧ t.heap[q]? = some ce ∧ ce.vm = .none ∧ A.U.vm.findClass E = some ce.cls ∧ B.locs = A.locs ++ L ∧ (∀ z ∈ L, free z.base) ∧ B.cells = A.cells + mc ∧ B.slots = A.slots + ms
def vx_Back (l : Launch) (R : Room) (p : Program) (e : Env) (below : List Frame) (s : State) (sargs : Array Value) (y : MethodName) (len W9 : Nat)
    (Pre : Pt → Array Value → Prop) (Post : Pt → Array Value → Option Value → Pt → Prop) (PostX : Pt → Array Value → Addr → Pt → Prop) : Prop :=
  ∀ (m : MethodId) (meth : Method) (c : Code) (A : Pt) (g : JFrame) (ig : Instr) (mk : MethodId) (a : Array Value),
    Stand p l e R s m sargs below meth c A.U A.locs A.cells A.slots → g.method = m → g.locals.size = c.maxLocals → decode c.code g.pc = .ok (ig, len) →
    2 * g.monitorRoom + (g.stack.map fun v => v.category).sum ≤ W9 → A.U.methodNamed? y = some mk → Pre A a →
    (∃ (v : Option Value) (B : Pt), Stand p l e R s m sargs below meth c B.U B.locs B.cells B.slots ∧ Post A a v B ∧
      Steps p.tables e below (doInvoke e (A.U.setTop g) [] mk a).1 (B.U.setTop { g with pc := g.pc + len, stack := v.toList ++ g.stack })) ∨
    (∃ (q : Addr) (B : Pt), Stand p l e R s m sargs below meth c B.U B.locs B.cells B.slots ∧ PostX A a q B ∧
      Steps p.tables e below (doInvoke e (A.U.setTop g) [] mk a).1 ((B.U.setTop g).pushFrame (.throwing q)))
section Payer
variable {l : Launch} {R : Room} {p : Program} {e : Env} {below : List Frame} {s : State} {sargs : Array Value} {y : MethodName} {len W9 : Nat}
theorem vx_back {ws : List Cond} {rm : Room} {Pc : Array Value → State → Prop} {Qc : Array Value → State → Outcome → State → Prop} {XC : String → State → State → Prop} {mc ms : Nat} {free : Addr → Prop} {bytes : ByteArray} {maxL : Nat} {ret : Option FieldType}
    (hM : vx_Met l y ws rm Pc Qc XC mc ms free) (hblind : FrameBlind Pc) (hrc : rm.cells = mc) (hrs : rm.slots = ms)
    (hframes : rm.frames + 1 ≤ R.frames) (hlocals : W9 + (maxL + 11) + rm.locals ≤ R.locals)
    (hws : ∀ w ∈ ws, ∀ a' U, s.WarmedH U.vm → w.before a' U = true) (hcode : Cond.code y bytes maxL ret ∈ ws) (hinit : ∀ a' U, s.WarmedH U.vm → (Cond.initialized y.cls).before a' U = true) :
    vx_Back l R p e below s sargs y len W9 (PreOf R mc ms Pc) (PostOf Qc mc ms free) (vx_Post XC mc ms free) := by
  intro m meth c A g ig mk a X hg hsize hdg hW hn hp
  have h1 : (headSpec ws rm).pre.before a A.U = true := atoms_intro fun w hw => hws w hw _ _ X.warmed
  have h2 : (Cond.code y bytes maxL ret).before a A.U = true := hws _ hcode _ _ X.warmed
  have h3 : (Cond.initialized y.cls).before a A.U = true := hinit _ _ X.warmed
  have h4 : A.cells + (headSpec ws rm).room.cells ≤ R.cells := by rw [show (headSpec ws rm).room.cells = mc from hrc]; exact hp.1
  have h5 : A.slots + (headSpec ws rm).room.slots ≤ R.slots := by rw [show (headSpec ws rm).room.slots = ms from hrs]; exact hp.2.1
  have hPc : Pc a (A.U.calling g mk a) := hblind _ _ _ _ hp.2.2
  obtain ⟨U, Ls, c0, s0⟩ := A
  dsimp only [Pt.U, Pt.locs, Pt.cells, Pt.slots] at h1 h2 h3 h4 h5 X hn hPc ⊢
  obtain ⟨methY, cY, hmY, hcY, -, hlY, -, -, -, -⟩ := Cond.code_spec hn h2
  obtain ⟨kY, hkY, -⟩ := className_of_methodNamed hn
  have hinitY : kY.init = .initialized := Cond.initialized_spec (findClass_of_methodNamed hn) hkY h3
  have h : At U g.method c below := by rw [hg]; exact X.here
  have hlocals9 : W9 + (maxL + 11) + (headSpec ws rm).room.locals ≤ R.locals := hlocals
  have happ : (headSpec ws rm).appliesLoose y e.platform (U.calling g mk a) = true :=
    Spec.appliesLoose_calling (g := g) h hdg hn hkY hinitY
      (X.room_calling (g := g) (R' := (headSpec ws rm).room) hsize hmY hcY hframes (by rw [hlY]; omega) h4 h5) h1
  obtain ⟨mid, hmid⟩ := h.above
  have hfr : (U.setTop g).frames = (.java g :: mid) ++ below := by rw [State.frames_setTop' g h.top, hmid]; rfl
  obtain ⟨o, s₂, hsteps, -, hend, hq⟩ := Steps.callFree hM p X.admits X.cas X.clock (acts := []) hfr happ hPc trivial
  have hq' : vx_Q Qc XC mc ms free a (U.calling g mk a) o s₂ := hq
  rw [State.frames_setTop' g h.top] at hend
  obtain ⟨g₀, hg0⟩ := Option.isSome_iff_exists.mp h.top
  obtain ⟨r, hr⟩ := State.topJava?_eq_some.mp hg0
  have hr' : (({ U with heap := s₂.heap, slotsUsed := s₂.slotsUsed } : State).setVm s₂.vm).frames = .java g₀ :: r := hr
  rcases hq' with ⟨hqc, L, hfe, hL⟩ | ⟨q, rfl, E, ce, L, hx, hce, hcv, hcl, hW₂, hsm, hL⟩
  · obtain ⟨⟨v, rfl⟩, hW₂, e2, q2, q3, q4, q5, q6⟩ := id hfe
    have e3 : s₂ = ({ (U.calling g mk a).setFrames s₂.frames with heap := s₂.heap, slotsUsed := s₂.slotsUsed } : State).setVm s₂.vm := by
      have : s₂ = ({ s₂ with vm := (U.calling g mk a).vm } : State).setVm s₂.vm := rfl
      rw [e2] at this
      exact this
    obtain ⟨c₂, i₂, len₂, hc₂, hd₂, hf₂⟩ := hend
    have hW' : U.WarmedH s₂.vm := hW₂
    have hcc : c₂ = c := by
      have h1 : s₂.code? g.method = U.code? g.method := by
        rw [State.code?_eq, State.code?_eq, hW'.alike.method?]
      exact Option.some.inj (hc₂.symm.trans (h1.trans h.code))
    subst hcc
    have hlen : len₂ = len := by rw [hdg] at hd₂; cases hd₂; rfl
    subst hlen
    have hs₂ : s₂ = (({ U with heap := s₂.heap, slotsUsed := s₂.slotsUsed } : State).setVm s₂.vm).setTop { g with pc := g.pc + len₂, stack := v.toList ++ g.stack } := by
      refine e3.trans ?_
      rw [hf₂, State.calling_eq h.top, State.setFrames_setFrames, State.setTop_of_frames _ hr', hr]
      rfl
    have hsame : U.sameButNew ({ U with heap := s₂.heap, slotsUsed := s₂.slotsUsed } : State) L mc ms := by
      refine ⟨?_, q2, q3, q4, q5, q6⟩
      obtain ⟨t, ht, -⟩ := State.frames_cons hr
      show ({ U with heap := s₂.heap, slotsUsed := s₂.slotsUsed } : State) = { U.setFrames U.frames with heap := s₂.heap, slotsUsed := s₂.slotsUsed }
      rw [State.setFrames_self ht]
    subst hg
    refine Or.inl ⟨v, ⟨(({ U with heap := s₂.heap, slotsUsed := s₂.slotsUsed } : State).setVm s₂.vm), Ls ++ L, c0 + mc, s0 + ms⟩,
      ⟨X.admits, X.cas, X.clock, X.frames, X.room, X.hears, X.method, X.code, (X.here.setHeapUsed s₂.heap s₂.slotsUsed).setVm hW'.alike, X.tail, State.WarmedH.trans X.warmed hW', X.limits, X.bytes, X.same.trans (hsame.setVm s.vm)⟩,
      ⟨g, mk, s₂, L, rfl, rfl, hqc, rfl, hL, rfl, rfl⟩, ?_⟩
    show Steps p.tables e below _ ((({ U with heap := s₂.heap, slotsUsed := s₂.slotsUsed } : State).setVm s₂.vm).setTop { g with pc := g.pc + len₂, stack := v.toList ++ g.stack })
    rw [← hs₂]
    exact hsteps
  · obtain ⟨e2, q2, q3, q4, q5, q6⟩ := id hsm
    have e3 : s₂ = ({ (U.calling g mk a).setFrames s₂.frames with heap := s₂.heap, slotsUsed := s₂.slotsUsed } : State).setVm s₂.vm := by
      have : s₂ = ({ s₂ with vm := (U.calling g mk a).vm } : State).setVm s₂.vm := rfl
      rw [e2] at this
      exact this
    have hf₂ : s₂.frames = .throwing q :: .java g :: U.frames.tail := hend
    have hW' : U.WarmedH s₂.vm := hW₂
    have hs₂ : s₂ = ((({ U with heap := s₂.heap, slotsUsed := s₂.slotsUsed } : State).setVm s₂.vm).setTop g).pushFrame (.throwing q) := by
      refine e3.trans ?_
      rw [hf₂, State.calling_eq h.top, State.setFrames_setFrames, State.pushFrame, State.frames_setTop _ hr', State.setTop_of_frames _ hr', State.setFrames_setFrames, hr]
      rfl
    have hsame : U.sameButNew ({ U with heap := s₂.heap, slotsUsed := s₂.slotsUsed } : State) L mc ms := by
      refine ⟨?_, q2, q3, q4, q5, q6⟩
      obtain ⟨t, ht, -⟩ := State.frames_cons hr
      show ({ U with heap := s₂.heap, slotsUsed := s₂.slotsUsed } : State) = { U.setFrames U.frames with heap := s₂.heap, slotsUsed := s₂.slotsUsed }
      rw [State.setFrames_self ht]
    subst hg
    refine Or.inr ⟨q, ⟨(({ U with heap := s₂.heap, slotsUsed := s₂.slotsUsed } : State).setVm s₂.vm), Ls ++ L, c0 + mc, s0 + ms⟩,
      ⟨X.admits, X.cas, X.clock, X.frames, X.room, X.hears, X.method, X.code, (X.here.setHeapUsed s₂.heap s₂.slotsUsed).setVm hW'.alike, X.tail, State.WarmedH.trans X.warmed hW', X.limits, X.bytes, X.same.trans (hsame.setVm s.vm)⟩,
      ⟨g, mk, s₂, L, E, ce, rfl, rfl, hx, hce, hcv, hcl, rfl, hL, rfl, rfl⟩, ?_⟩
    show Steps p.tables e below _ (((({ U with heap := s₂.heap, slotsUsed := s₂.slotsUsed } : State).setVm s₂.vm).setTop g).pushFrame (.throwing q))
    rw [← hs₂]
    exact hsteps
end Payer
section Calls
variable {p : Program} {l : Launch} {e : Env} {R : Room} {s : State} {m : MethodId} {args : Array Value} {below : List Frame} {meth : Method} {c : Code} {T : State} {locs : List Loc} {cells slots : Nat}
theorem vx_callV (X : Stand p l e R s m args below meth c T locs cells slots) (hexec : p.tables.exec = Jvm.exec) {own C : String} {index : Nat} {y : MethodName} {bytes : ByteArray} {maxL : Nat} {ret : Option FieldType}
    (hown : s.vm.findClass own = some m.cls) (hlink : (Cond.methodLink own index y).before args s = true) (hinst : (Cond.instanceMethod y).before args s = true) (hsel : (Cond.selects C y y).before args s = true)
    (hcode : (Cond.code y bytes maxL ret).before args s = true) (hy : y.cls ≠ "java/lang/invoke/MethodHandle" ∧ y.cls ≠ "java/lang/invoke/VarHandle")
    {W9 : Nat} {Pre : Pt → Array Value → Prop} {Post : Pt → Array Value → Option Value → Pt → Prop} {PostX : Pt → Array Value → Addr → Pt → Prop} (hK : vx_Back l R p e below s args y 3 W9 Pre Post PostX)
    {b : Addr} {cellB : Cell} (hcell : T.heap[b]? = some cellB) (hobj : cellB.vm.isStatics = false) (hcls : s.vm.findClass C = some cellB.cls)
    {g : JFrame} (hg : g.method = m) (hsize : g.locals.size = c.maxLocals) {argsL rest : List Value} (hlen : ∀ sig, parseMethodDescriptor y.desc = some sig → argsL.length = sig.parameters.length)
    (hstack : g.stack = argsL.reverse ++ .ref b :: rest) (hW : 2 * g.monitorRoom + (rest.map fun v => v.category).sum ≤ W9) (hdg : decode c.code g.pc = .ok (.invokevirtual index, 3))
    (hpre : ∀ vm₁, s.WarmedH vm₁ → Pre ⟨T.setVm vm₁, locs, cells, slots⟩ (Value.ref b :: argsL).toArray) :
    (∃ (v : Option Value) (vm₁ : Vm) (B : Pt), s.WarmedH vm₁ ∧ Stand p l e R s m args below meth c B.U B.locs B.cells B.slots ∧ Post ⟨T.setVm vm₁, locs, cells, slots⟩ (Value.ref b :: argsL).toArray v B ∧
      ∀ target, Steps p.tables e below (B.U.setTop { g with pc := g.pc + 3, stack := v.toList ++ rest }) target → Steps p.tables e below (T.setTop g) target) ∨
    (∃ (q : Addr) (vm₁ : Vm) (B : Pt), s.WarmedH vm₁ ∧ Stand p l e R s m args below meth c B.U B.locs B.cells B.slots ∧ PostX ⟨T.setVm vm₁, locs, cells, slots⟩ (Value.ref b :: argsL).toArray q B ∧
      Steps p.tables e below (T.setTop g) ((B.U.setTop { g with stack := rest }).pushFrame (.throwing q))) := by
  obtain ⟨mk, methM, hnamed, hmethM, hstM, habM⟩ := Cond.instanceMethod_spec hinst
  obtain ⟨methM', cM, hmethM', -, -, -, -, -, -, hsigM⟩ := Cond.code_spec hnamed hcode
  cases hmethM.symm.trans hmethM'
  obtain ⟨c2, r2, m2, q1, q2, q3, q4, kP, hkP, hkPi⟩ := Cond.selects_spec hsel
  cases hcls.symm.trans q1
  cases (State.methodFound?_of_named hnamed hy).symm.trans q2
  cases hnamed.symm.trans q3
  have hselP : selectMethod e.platform s.vm cellB.cls mk = .method mk := by rw [Launch.admits_selectMethod X.admits]; exact q4
  obtain ⟨vm₁, X₁, hstep₁⟩ := X.invokevirtual hexec hown hlink hnamed hmethM hstM hkP hkPi hy (a := b) (cell := cellB) hcell
    (fun z h => by rw [h] at hobj; cases hobj) hselP hmethM habM hkP hkPi (g := g) hg (argsL := argsL) (rest := rest) (hlen _ hsigM) hstack hdg
  rcases hK m meth c ⟨T.setVm vm₁, locs, cells, slots⟩ { g with stack := rest } (.invokevirtual index) mk (Value.ref b :: argsL).toArray X₁ hg hsize hdg hW (X₁.named hnamed) (hpre vm₁ X₁.warmed) with ⟨v, B, X', hpost, hsteps⟩ | ⟨q, B, X', hpost, hsteps⟩
  · exact Or.inl ⟨v, vm₁, B, X₁.warmed, X', hpost, fun target h => hstep₁ _ fun acts => by rw [doInvoke_state]; exact hsteps.trans h⟩
  · exact Or.inr ⟨q, vm₁, B, X₁.warmed, X', hpost, hstep₁ _ fun acts => by rw [doInvoke_state]; exact hsteps⟩
theorem vx_callS (X : Stand p l e R s m args below meth c T locs cells slots) (hexec : p.tables.exec = Jvm.exec) {own : String} {index : Nat} {y : MethodName} {bytes : ByteArray} {maxL : Nat} {ret : Option FieldType}
    (hown : s.vm.findClass own = some m.cls) (hlink : (Cond.methodLink own index y).before args s = true) (hstat : (Cond.static y).before args s = true) (hinit : (Cond.initialized y.cls).before args s = true)
    (hcode : (Cond.code y bytes maxL ret).before args s = true) (hy : y.cls ≠ "java/lang/invoke/MethodHandle" ∧ y.cls ≠ "java/lang/invoke/VarHandle")
    {W9 : Nat} {Pre : Pt → Array Value → Prop} {Post : Pt → Array Value → Option Value → Pt → Prop} {PostX : Pt → Array Value → Addr → Pt → Prop} (hK : vx_Back l R p e below s args y 3 W9 Pre Post PostX)
    {g : JFrame} (hg : g.method = m) (hsize : g.locals.size = c.maxLocals) {argsL rest : List Value} (hlen : ∀ sig, parseMethodDescriptor y.desc = some sig → argsL.length = sig.parameters.length)
    (hstack : g.stack = argsL.reverse ++ rest) (hW : 2 * g.monitorRoom + (rest.map fun v => v.category).sum ≤ W9) (hdg : decode c.code g.pc = .ok (.invokestatic index, 3))
    (hpre : ∀ vm₁, s.WarmedH vm₁ → Pre ⟨T.setVm vm₁, locs, cells, slots⟩ argsL.toArray) :
    (∃ (v : Option Value) (vm₁ : Vm) (B : Pt), s.WarmedH vm₁ ∧ Stand p l e R s m args below meth c B.U B.locs B.cells B.slots ∧ Post ⟨T.setVm vm₁, locs, cells, slots⟩ argsL.toArray v B ∧
      ∀ target, Steps p.tables e below (B.U.setTop { g with pc := g.pc + 3, stack := v.toList ++ rest }) target → Steps p.tables e below (T.setTop g) target) ∨
    (∃ (q : Addr) (vm₁ : Vm) (B : Pt), s.WarmedH vm₁ ∧ Stand p l e R s m args below meth c B.U B.locs B.cells B.slots ∧ PostX ⟨T.setVm vm₁, locs, cells, slots⟩ argsL.toArray q B ∧
      Steps p.tables e below (T.setTop g) ((B.U.setTop { g with stack := rest }).pushFrame (.throwing q))) := by
  obtain ⟨mk, hnamed⟩ := Cond.code_named hcode
  obtain ⟨methM, cM, hmethM, -, -, -, -, -, -, hsigM⟩ := Cond.code_spec hnamed hcode
  have hstatic : methM.isStatic = true := Cond.static_spec hnamed hmethM hstat
  obtain ⟨kP, hkP, -⟩ := className_of_methodNamed hnamed
  have hinitP : kP.init = .initialized := Cond.initialized_spec (findClass_of_methodNamed hnamed) hkP hinit
  obtain ⟨vm₁, X₁, hstep₁⟩ := X.invokestatic hexec hown hlink hnamed hmethM hstatic hkP hinitP hy (g := g) hg (argsL := argsL) (rest := rest) (hlen _ hsigM) hstack hdg
  rcases hK m meth c ⟨T.setVm vm₁, locs, cells, slots⟩ { g with stack := rest } (.invokestatic index) mk argsL.toArray X₁ hg hsize hdg hW (X₁.named hnamed) (hpre vm₁ X₁.warmed) with ⟨v, B, X', hpost, hsteps⟩ | ⟨q, B, X', hpost, hsteps⟩
  · exact Or.inl ⟨v, vm₁, B, X₁.warmed, X', hpost, fun target h => hstep₁ _ fun acts => by rw [doInvoke_state]; exact hsteps.trans h⟩
  · exact Or.inr ⟨q, vm₁, B, X₁.warmed, X', hpost, hstep₁ _ fun acts => by rw [doInvoke_state]; exact hsteps⟩
end Calls
theorem vx_cls {s : State} {T : State} {vm₁ : Vm} {E : String} {k : ClassId} (hW : s.WarmedH vm₁) (h : (T.setVm vm₁).vm.findClass E = some k) : s.vm.findClass E = some k := by
  have h1 : vm₁.findClass E = some k := h
  rw [hW.alike.findClass] at h1
  exact h1
/-- the method's frame g, with q thrown over it -/
def vx_W (p : Program) (l : Launch) (e : Env) (R : Room) (s : State) (m : MethodId) (args : Array Value) (below : List Frame) (meth : Method) (c : Code) (H : Heap) (locs : List Loc) (cells slots : Nat) (Q : State → Prop) (g : JFrame) (q : Addr) : Prop :=
  ∀ T : State, T.heap = H → Stand p l e R s m args below meth c T locs cells slots → ∃ t, Steps p.tables e below ((T.setTop g).pushFrame (.throwing q)) t ∧ Q t
def vx_Run (p : Program) (l : Launch) (e : Env) (R : Room) (s : State) (m : MethodId) (args : Array Value) (below : List Frame) (meth : Method) (c : Code) (H : Heap) (locs : List Loc) (cells slots mc ms : Nat) (g : JFrame) (rest : List Value) (Qa : State → Outcome → State → Prop) (XC : String → State → State → Prop) (free : Addr → Prop) : Prop :=
  ∀ T : State, T.heap = H → Stand p l e R s m args below meth c T locs cells slots →
    (∃ (v : Option Value) (st₀ t T' : State) (L : List Loc), st₀.heap = H ∧ Stand p l e R s m args below meth c T' (locs ++ L) (cells + mc) (slots + ms) ∧ (∀ q ∈ L, free q.base) ∧ T'.heap = t.heap ∧ T'.vm = t.vm ∧ Qa st₀ (.returned v) t ∧
      Goes p e below T g T' { g with pc := g.pc + 3, stack := v.toList ++ rest }) ∨
    (∃ (q : Addr) (st₀ t T' : State) (L : List Loc) (E : String) (ce : Cell), st₀.heap = H ∧ Stand p l e R s m args below meth c T' (locs ++ L) (cells + mc) (slots + ms) ∧ (∀ z ∈ L, free z.base) ∧ T'.heap = t.heap ∧ T'.vm = t.vm ∧ XC E st₀ t ∧ t.heap[q]? = some ce ∧ ce.vm = .none ∧ s.vm.findClass E = some ce.cls ∧
      Steps p.tables e below (T.setTop g) ((T'.setTop { g with stack := rest }).pushFrame (.throwing q)))
def vx_X {S : Type} (px : S → Prop) (B : String → S → State → Prop) (A : Nat → Prop) : String → State → State → Prop := fun E st t => ∃ u : S, px u ∧ B E u t ∧ va_F A st t
section Runs
variable {p : Program} {l : Launch} {e : Env} {R : Room} {s : State} {m : MethodId} {args : Array Value} {below : List Frame} {meth : Method} {c : Code} {H : Heap} {locs : List Loc} {cells slots : Nat}
variable {y : MethodName} {bytes cc : ByteArray} {maxL nL mc ms n index : Nat} {ret : Option FieldType} {ws : List Cond} {rm : Room} {Pc : Array Value → State → Prop} {Qc : Array Value → State → Outcome → State → Prop} {XC : String → State → State → Prop} {free : Addr → Prop} {Ts : List Cond} {own C : String} {b : Addr} {As rest : List Value} {g : JFrame}
theorem vx_callBack (cb : CallB R s args own index y bytes maxL ret ws rm mc ms n) (hM : vx_Met l y ws rm Pc Qc XC mc ms free) (hbl : FrameBlind Pc) : vx_Back l R p e below s args y 3 8 (PreOf R mc ms Pc) (PostOf Qc mc ms free) (vx_Post XC mc ms free) := by
  obtain ⟨hrc, hrs, hfr, hlo, hws, hcw, -, hini, -⟩ := cb
  exact vx_back (bytes := bytes) (maxL := maxL) (ret := ret) hM hbl hrc hrs hfr hlo hws hcw (fun a' U hW => word_at hW (Or.inl (by first | rfl | simp [Cond.onTables, Cond.keeps, Cond.steady])) hini)
theorem vx_runV (S : CallFix p m c cc nL s args Ts own) (hM : vx_Met l y ws rm Pc Qc XC mc ms free) (cw : CallW R s args own C index y bytes maxL ret ws rm mc ms n) (hp : PreV s H C b Pc As)
    (hg : g.method = m) (hn : As.length = n) (hsize : g.locals.size = nL) (hstack : g.stack = As.reverse ++ .ref b :: rest) (hW : 2 * g.monitorRoom + (rest.map fun v => v.category).sum ≤ 8) (hdg : decode cc g.pc = .ok (.invokevirtual index, 3)) (hf : cells + mc ≤ R.cells ∧ slots + ms ≤ R.slots) :
    vx_Run p l e R s m args below meth c H locs cells slots mc ms g rest (Qc (Value.ref b :: As).toArray) XC free := by
  have hK : vx_Back l R p e below s args y 3 8 (PreOf R mc ms Pc) (PostOf Qc mc ms free) (vx_Post XC mc ms free) := vx_callBack cw.1 hM hp.1
  obtain ⟨⟨-, -, -, -, -, -, hcode, -, hy, hlen, hl⟩, hin, hse⟩ := cw
  obtain ⟨hx, hb, hml, ho, -⟩ := S
  obtain ⟨-, ⟨cellB, hcB, hoB, hclB⟩, hPc⟩ := hp
  intro T hT X
  rcases vx_callV X hx (C := C) (bytes := bytes) (maxL := maxL) (ret := ret) ho hl hin hse hcode hy hK (by rw [hT]; exact hcB) hoB hclB hg (hsize.trans hml.symm) (argsL := As) (rest := rest) (fun sig h => hn.trans (hlen sig h)) hstack hW (by rw [hb]; exact hdg)
    (fun vm₁ hW₁ => ⟨hf.1, hf.2, hPc (T.setVm vm₁) hT hW₁⟩) with ⟨v, vm₁, ⟨U', l2, c2, s2⟩, hW₁, X', ⟨g', mk, t, L, e1, e2, hq, h1, hL, h2, h3⟩, st⟩ | ⟨q, vm₁, ⟨U', l2, c2, s2⟩, hW₁, X', ⟨g', mk, t, L, E, ce, e1, e2, hq, hce, hcv, hcl, h1, hL, h2, h3⟩, st⟩
  · dsimp only [Pt.U, Pt.locs, Pt.cells, Pt.slots] at X' e1 e2 h1 h2 h3 st
    subst h1; subst h2; subst h3
    exact Or.inl ⟨v, (T.setVm vm₁).calling g' mk (Value.ref b :: As).toArray, t, U', L, hT, X', hL, e1, e2, hq, st⟩
  · dsimp only [Pt.U, Pt.locs, Pt.cells, Pt.slots] at X' e1 e2 h1 h2 h3 st hcl
    subst h1; subst h2; subst h3
    exact Or.inr ⟨q, (T.setVm vm₁).calling g' mk (Value.ref b :: As).toArray, t, U', L, E, ce, hT, X', hL, e1, e2, hq, hce, hcv, vx_cls hW₁ hcl, st⟩
theorem vx_runS (S : CallFix p m c cc nL s args Ts own) (hM : vx_Met l y ws rm Pc Qc XC mc ms free) (cw : CallB R s args own index y bytes maxL ret ws rm mc ms n ∧ (Cond.static y).before args s = true) (hp : PreS s H Pc As)
    (hg : g.method = m) (hn : As.length = n) (hsize : g.locals.size = nL) (hstack : g.stack = As.reverse ++ rest) (hW : 2 * g.monitorRoom + (rest.map fun v => v.category).sum ≤ 8) (hdg : decode cc g.pc = .ok (.invokestatic index, 3)) (hf : cells + mc ≤ R.cells ∧ slots + ms ≤ R.slots) :
    vx_Run p l e R s m args below meth c H locs cells slots mc ms g rest (Qc As.toArray) XC free := by
  have hK : vx_Back l R p e below s args y 3 8 (PreOf R mc ms Pc) (PostOf Qc mc ms free) (vx_Post XC mc ms free) := vx_callBack cw.1 hM hp.1
  obtain ⟨⟨-, -, -, -, -, -, hcode, hini, hy, hlen, hl⟩, hstt⟩ := cw
  obtain ⟨hx, hb, hml, ho, -⟩ := S
  intro T hT X
  rcases vx_callS X hx (bytes := bytes) (maxL := maxL) (ret := ret) ho hl hstt hini hcode hy hK hg (hsize.trans hml.symm) (argsL := As) (rest := rest) (fun sig h => hn.trans (hlen sig h)) hstack hW (by rw [hb]; exact hdg)
    (fun vm₁ hW₁ => ⟨hf.1, hf.2, hp.2 (T.setVm vm₁) hT hW₁⟩) with ⟨v, vm₁, ⟨U', l2, c2, s2⟩, hW₁, X', ⟨g', mk, t, L, e1, e2, hq, h1, hL, h2, h3⟩, st⟩ | ⟨q, vm₁, ⟨U', l2, c2, s2⟩, hW₁, X', ⟨g', mk, t, L, E, ce, e1, e2, hq, hce, hcv, hcl, h1, hL, h2, h3⟩, st⟩
  · dsimp only [Pt.U, Pt.locs, Pt.cells, Pt.slots] at X' e1 e2 h1 h2 h3 st
    subst h1; subst h2; subst h3
    exact Or.inl ⟨v, (T.setVm vm₁).calling g' mk As.toArray, t, U', L, hT, X', hL, e1, e2, hq, st⟩
  · dsimp only [Pt.U, Pt.locs, Pt.cells, Pt.slots] at X' e1 e2 h1 h2 h3 st hcl
    subst h1; subst h2; subst h3
    exact Or.inr ⟨q, (T.setVm vm₁).calling g' mk As.toArray, t, U', L, E, ce, hT, X', hL, e1, e2, hq, hce, hcv, vx_cls hW₁ hcl, st⟩
end Runs
section Rows
variable {p : Program} {l : Launch} {e : Env} {R : Room} {s : State} {m : MethodId} {args : Array Value} {below : List Frame} {meth : Method} {c : Code} {H : Heap} {locs : List Loc} {cells slots : Nat} {Q : State → Prop}
variable {mc ms : Nat} {free : Addr → Prop} {A0 A1 : Nat → Prop} {H0 : Heap} {a : Array Value} {pc : Nat} {ls : Array Slot} {st0 rest : List Value}
theorem vx_keep {st₀ t T' : State} {L : List Loc} (h0 : st₀.heap = H) (e1 : T'.heap = t.heap) (hS : va_S A0 H0 H locs) (hA : ∀ q, q < H.size → A1 q → A0 q) (hf : ∀ q, free q → A0 q) (hL : ∀ q ∈ L, free q.base) (hF : va_F A1 st₀ t) :
    H.size ≤ T'.heap.size ∧ (∀ q : Nat, q < H.size → ¬ A1 q → T'.heap[q]? = H[q]?) ∧ va_S A0 H0 T'.heap (locs ++ L) := by
  obtain ⟨hz, hk⟩ := hF
  rw [h0] at hz hk
  exact ⟨by rw [e1]; exact hz, fun q h1 h2 => by rw [e1]; exact hk q h1 h2,
    ⟨Nat.le_trans hS.1 (by rw [e1]; exact hz), fun q h1 h2 => by rw [e1, hk q (Nat.lt_of_lt_of_le h1 hS.1) (fun z => h2 (hA q (Nat.lt_of_lt_of_le h1 hS.1) z))]; exact hS.2.1 q h1 h2, fun q hq => by
      rcases List.mem_append.mp hq with h | h
      · exact hS.2.2 q h
      · exact hf _ (hL q h)⟩⟩
theorem vx_calli {S SX : Type} {post : Int32 → S → Prop} {px : SX → Prop} {B : S → State → Prop} {BX : String → SX → State → Prop} {AX : Nat → Prop} (hr : vx_Run p l e R s m args below meth c H locs cells slots mc ms (F0 m pc ls st0) rest (va_Qi post B A1 a) (vx_X px BX AX) free) (hS : va_S A0 H0 H locs) (hA : ∀ q, q < H.size → A1 q → A0 q) (hf : ∀ q, free q → A0 q) (hAX : ∀ q, q < H.size → AX q → A0 q)
    (kx : ∀ (E : String) (ce : Cell) (q9 : Addr) (u : SX) (t : State) (H1 : Heap) (locs1 : List Loc), t.heap = H1 → s.vm.Alike t.vm → px u → BX E u t → H.size ≤ H1.size → (∀ q : Nat, q < H.size → ¬ AX q → H1[q]? = H[q]?) → va_S A0 H0 H1 locs1 → H1[q9]? = some ce → ce.vm = .none → s.vm.findClass E = some ce.cls → vx_W p l e R s m args below meth c H1 locs1 (cells + mc) (slots + ms) Q (F0 m pc ls rest) q9)
    (kk : ∀ (r : Int32) (u : S) (t : State) (H1 : Heap) (locs1 : List Loc), t.heap = H1 → s.vm.Alike t.vm → post r u → B u t → H.size ≤ H1.size → (∀ q : Nat, q < H.size → ¬ A1 q → H1[q]? = H[q]?) → va_S A0 H0 H1 locs1 → W p l e R s m args below meth c H1 locs1 (cells + mc) (slots + ms) Q (F0 m (pc + 3) ls (.int r :: rest))) : W p l e R s m args below meth c H locs cells slots Q (F0 m pc ls st0) := by
  intro T hT X
  rcases hr T hT X with ⟨v, st₀, t, T', L, h0, X', hL, e1, e2, ⟨⟨r, u, hv, hp, hb⟩, hF⟩, st⟩ | ⟨q, st₀, t, T', L, E, ce, h0, X', hL, e1, e2, ⟨u, hp, hb, hF⟩, hce, hcv, hcl, st⟩
  · cases hv
    obtain ⟨k1, k2, k3⟩ := vx_keep h0 e1 hS hA hf hL hF
    obtain ⟨t2, a1, b1⟩ := kk r u t T'.heap (locs ++ L) e1.symm (by rw [← e2]; exact X'.warmed.alike) hp hb k1 k2 k3 T' rfl X'
    exact ⟨t2, st t2 a1, b1⟩
  · obtain ⟨k1, k2, k3⟩ := vx_keep h0 e1 hS hAX hf hL hF
    obtain ⟨t2, a1, b1⟩ := kx E ce q u t T'.heap (locs ++ L) e1.symm (by rw [← e2]; exact X'.warmed.alike) hp hb k1 k2 k3 (by rw [e1]; exact hce) hcv hcl T' rfl X'
    exact ⟨t2, st.trans a1, b1⟩
theorem vx_calll {S SX : Type} {post : Int64 → S → Prop} {px : SX → Prop} {B : S → State → Prop} {BX : String → SX → State → Prop} {AX : Nat → Prop} (hr : vx_Run p l e R s m args below meth c H locs cells slots mc ms (F0 m pc ls st0) rest (va_Ql post B A1 a) (vx_X px BX AX) free) (hS : va_S A0 H0 H locs) (hA : ∀ q, q < H.size → A1 q → A0 q) (hf : ∀ q, free q → A0 q) (hAX : ∀ q, q < H.size → AX q → A0 q)
    (kx : ∀ (E : String) (ce : Cell) (q9 : Addr) (u : SX) (t : State) (H1 : Heap) (locs1 : List Loc), t.heap = H1 → s.vm.Alike t.vm → px u → BX E u t → H.size ≤ H1.size → (∀ q : Nat, q < H.size → ¬ AX q → H1[q]? = H[q]?) → va_S A0 H0 H1 locs1 → H1[q9]? = some ce → ce.vm = .none → s.vm.findClass E = some ce.cls → vx_W p l e R s m args below meth c H1 locs1 (cells + mc) (slots + ms) Q (F0 m pc ls rest) q9)
    (kk : ∀ (r : Int64) (u : S) (t : State) (H1 : Heap) (locs1 : List Loc), t.heap = H1 → s.vm.Alike t.vm → post r u → B u t → H.size ≤ H1.size → (∀ q : Nat, q < H.size → ¬ A1 q → H1[q]? = H[q]?) → va_S A0 H0 H1 locs1 → W p l e R s m args below meth c H1 locs1 (cells + mc) (slots + ms) Q (F0 m (pc + 3) ls (.long r :: rest))) : W p l e R s m args below meth c H locs cells slots Q (F0 m pc ls st0) := by
  intro T hT X
  rcases hr T hT X with ⟨v, st₀, t, T', L, h0, X', hL, e1, e2, ⟨⟨r, u, hv, hp, hb⟩, hF⟩, st⟩ | ⟨q, st₀, t, T', L, E, ce, h0, X', hL, e1, e2, ⟨u, hp, hb, hF⟩, hce, hcv, hcl, st⟩
  · cases hv
    obtain ⟨k1, k2, k3⟩ := vx_keep h0 e1 hS hA hf hL hF
    obtain ⟨t2, a1, b1⟩ := kk r u t T'.heap (locs ++ L) e1.symm (by rw [← e2]; exact X'.warmed.alike) hp hb k1 k2 k3 T' rfl X'
    exact ⟨t2, st t2 a1, b1⟩
  · obtain ⟨k1, k2, k3⟩ := vx_keep h0 e1 hS hAX hf hL hF
    obtain ⟨t2, a1, b1⟩ := kx E ce q u t T'.heap (locs ++ L) e1.symm (by rw [← e2]; exact X'.warmed.alike) hp hb k1 k2 k3 (by rw [e1]; exact hce) hcv hcl T' rfl X'
    exact ⟨t2, st.trans a1, b1⟩
theorem vx_callf {S SX : Type} {post : UInt32 → S → Prop} {px : SX → Prop} {B : S → State → Prop} {BX : String → SX → State → Prop} {AX : Nat → Prop} (hr : vx_Run p l e R s m args below meth c H locs cells slots mc ms (F0 m pc ls st0) rest (va_Qf post B A1 a) (vx_X px BX AX) free) (hS : va_S A0 H0 H locs) (hA : ∀ q, q < H.size → A1 q → A0 q) (hf : ∀ q, free q → A0 q) (hAX : ∀ q, q < H.size → AX q → A0 q)
    (kx : ∀ (E : String) (ce : Cell) (q9 : Addr) (u : SX) (t : State) (H1 : Heap) (locs1 : List Loc), t.heap = H1 → s.vm.Alike t.vm → px u → BX E u t → H.size ≤ H1.size → (∀ q : Nat, q < H.size → ¬ AX q → H1[q]? = H[q]?) → va_S A0 H0 H1 locs1 → H1[q9]? = some ce → ce.vm = .none → s.vm.findClass E = some ce.cls → vx_W p l e R s m args below meth c H1 locs1 (cells + mc) (slots + ms) Q (F0 m pc ls rest) q9)
    (kk : ∀ (r : UInt32) (u : S) (t : State) (H1 : Heap) (locs1 : List Loc), t.heap = H1 → s.vm.Alike t.vm → post r u → B u t → H.size ≤ H1.size → (∀ q : Nat, q < H.size → ¬ A1 q → H1[q]? = H[q]?) → va_S A0 H0 H1 locs1 → W p l e R s m args below meth c H1 locs1 (cells + mc) (slots + ms) Q (F0 m (pc + 3) ls (.float r :: rest))) : W p l e R s m args below meth c H locs cells slots Q (F0 m pc ls st0) := by
  intro T hT X
  rcases hr T hT X with ⟨v, st₀, t, T', L, h0, X', hL, e1, e2, ⟨⟨r, u, hv, hp, hb⟩, hF⟩, st⟩ | ⟨q, st₀, t, T', L, E, ce, h0, X', hL, e1, e2, ⟨u, hp, hb, hF⟩, hce, hcv, hcl, st⟩
  · cases hv
    obtain ⟨k1, k2, k3⟩ := vx_keep h0 e1 hS hA hf hL hF
    obtain ⟨t2, a1, b1⟩ := kk r u t T'.heap (locs ++ L) e1.symm (by rw [← e2]; exact X'.warmed.alike) hp hb k1 k2 k3 T' rfl X'
    exact ⟨t2, st t2 a1, b1⟩
  · obtain ⟨k1, k2, k3⟩ := vx_keep h0 e1 hS hAX hf hL hF
    obtain ⟨t2, a1, b1⟩ := kx E ce q u t T'.heap (locs ++ L) e1.symm (by rw [← e2]; exact X'.warmed.alike) hp hb k1 k2 k3 (by rw [e1]; exact hce) hcv hcl T' rfl X'
    exact ⟨t2, st.trans a1, b1⟩
theorem vx_calld {S SX : Type} {post : UInt64 → S → Prop} {px : SX → Prop} {B : S → State → Prop} {BX : String → SX → State → Prop} {AX : Nat → Prop} (hr : vx_Run p l e R s m args below meth c H locs cells slots mc ms (F0 m pc ls st0) rest (va_Qd post B A1 a) (vx_X px BX AX) free) (hS : va_S A0 H0 H locs) (hA : ∀ q, q < H.size → A1 q → A0 q) (hf : ∀ q, free q → A0 q) (hAX : ∀ q, q < H.size → AX q → A0 q)
    (kx : ∀ (E : String) (ce : Cell) (q9 : Addr) (u : SX) (t : State) (H1 : Heap) (locs1 : List Loc), t.heap = H1 → s.vm.Alike t.vm → px u → BX E u t → H.size ≤ H1.size → (∀ q : Nat, q < H.size → ¬ AX q → H1[q]? = H[q]?) → va_S A0 H0 H1 locs1 → H1[q9]? = some ce → ce.vm = .none → s.vm.findClass E = some ce.cls → vx_W p l e R s m args below meth c H1 locs1 (cells + mc) (slots + ms) Q (F0 m pc ls rest) q9)
    (kk : ∀ (r : UInt64) (u : S) (t : State) (H1 : Heap) (locs1 : List Loc), t.heap = H1 → s.vm.Alike t.vm → post r u → B u t → H.size ≤ H1.size → (∀ q : Nat, q < H.size → ¬ A1 q → H1[q]? = H[q]?) → va_S A0 H0 H1 locs1 → W p l e R s m args below meth c H1 locs1 (cells + mc) (slots + ms) Q (F0 m (pc + 3) ls (.double r :: rest))) : W p l e R s m args below meth c H locs cells slots Q (F0 m pc ls st0) := by
  intro T hT X
  rcases hr T hT X with ⟨v, st₀, t, T', L, h0, X', hL, e1, e2, ⟨⟨r, u, hv, hp, hb⟩, hF⟩, st⟩ | ⟨q, st₀, t, T', L, E, ce, h0, X', hL, e1, e2, ⟨u, hp, hb, hF⟩, hce, hcv, hcl, st⟩
  · cases hv
    obtain ⟨k1, k2, k3⟩ := vx_keep h0 e1 hS hA hf hL hF
    obtain ⟨t2, a1, b1⟩ := kk r u t T'.heap (locs ++ L) e1.symm (by rw [← e2]; exact X'.warmed.alike) hp hb k1 k2 k3 T' rfl X'
    exact ⟨t2, st t2 a1, b1⟩
  · obtain ⟨k1, k2, k3⟩ := vx_keep h0 e1 hS hAX hf hL hF
    obtain ⟨t2, a1, b1⟩ := kx E ce q u t T'.heap (locs ++ L) e1.symm (by rw [← e2]; exact X'.warmed.alike) hp hb k1 k2 k3 (by rw [e1]; exact hce) hcv hcl T' rfl X'
    exact ⟨t2, st.trans a1, b1⟩
theorem vx_callv {S SX : Type} {post : S → Prop} {px : SX → Prop} {B : S → State → Prop} {BX : String → SX → State → Prop} {AX : Nat → Prop} (hr : vx_Run p l e R s m args below meth c H locs cells slots mc ms (F0 m pc ls st0) rest (va_Qv post B A1 a) (vx_X px BX AX) free) (hS : va_S A0 H0 H locs) (hA : ∀ q, q < H.size → A1 q → A0 q) (hf : ∀ q, free q → A0 q) (hAX : ∀ q, q < H.size → AX q → A0 q)
    (kx : ∀ (E : String) (ce : Cell) (q9 : Addr) (u : SX) (t : State) (H1 : Heap) (locs1 : List Loc), t.heap = H1 → s.vm.Alike t.vm → px u → BX E u t → H.size ≤ H1.size → (∀ q : Nat, q < H.size → ¬ AX q → H1[q]? = H[q]?) → va_S A0 H0 H1 locs1 → H1[q9]? = some ce → ce.vm = .none → s.vm.findClass E = some ce.cls → vx_W p l e R s m args below meth c H1 locs1 (cells + mc) (slots + ms) Q (F0 m pc ls rest) q9)
    (kk : ∀ (u : S) (t : State) (H1 : Heap) (locs1 : List Loc), t.heap = H1 → s.vm.Alike t.vm → post u → B u t → H.size ≤ H1.size → (∀ q : Nat, q < H.size → ¬ A1 q → H1[q]? = H[q]?) → va_S A0 H0 H1 locs1 → W p l e R s m args below meth c H1 locs1 (cells + mc) (slots + ms) Q (F0 m (pc + 3) ls (rest))) : W p l e R s m args below meth c H locs cells slots Q (F0 m pc ls st0) := by
  intro T hT X
  rcases hr T hT X with ⟨v, st₀, t, T', L, h0, X', hL, e1, e2, ⟨⟨u, hv, hp, hb⟩, hF⟩, st⟩ | ⟨q, st₀, t, T', L, E, ce, h0, X', hL, e1, e2, ⟨u, hp, hb, hF⟩, hce, hcv, hcl, st⟩
  · cases hv
    obtain ⟨k1, k2, k3⟩ := vx_keep h0 e1 hS hA hf hL hF
    obtain ⟨t2, a1, b1⟩ := kk u t T'.heap (locs ++ L) e1.symm (by rw [← e2]; exact X'.warmed.alike) hp hb k1 k2 k3 T' rfl X'
    exact ⟨t2, st t2 a1, b1⟩
  · obtain ⟨k1, k2, k3⟩ := vx_keep h0 e1 hS hAX hf hL hF
    obtain ⟨t2, a1, b1⟩ := kx E ce q u t T'.heap (locs ++ L) e1.symm (by rw [← e2]; exact X'.warmed.alike) hp hb k1 k2 k3 (by rw [e1]; exact hce) hcv hcl T' rfl X'
    exact ⟨t2, st.trans a1, b1⟩
/-- caught by the row x of this method's table; the rows ahead don't take it -/
theorem vx_catch {own name : String} {E : String} {ce : Cell} {q : Addr} (hown : s.vm.findClass own = some m.cls) (pre : List ExceptionTableEntry) (x : ExceptionTableEntry) (suf : List ExceptionTableEntry) (hsplit : c.exceptionTable.toList = pre ++ x :: suf)
    (hpass : ∀ z ∈ pre, covers z pc = false ∨ (z.catchType ≠ 0 ∧ ∃ nm : String, (Cond.classLink own z.catchType nm).before args s = true ∧ va_Nc E nm s)) (hx : covers x pc = true) (h0 : x.catchType ≠ 0)
    (hlink : (Cond.classLink own x.catchType name).before args s = true) (hcast : (Cond.castable E name).before args s = true) (hcell : H[q]? = some ce) (hv : ce.vm = .none) (hcl : s.vm.findClass E = some ce.cls)
    (kk : W p l e R s m args below meth c H locs cells slots Q (F0 m x.handlerPc ls [.ref q])) : vx_W p l e R s m args below meth c H locs cells slots Q (F0 m pc ls rest) q := by
  intro T hT X
  have hpl : e.platform.magicAccessors = ({} : Platform).magicAccessors := by rw [X.admits.platform]
  obtain ⟨c3, c4, hc3, hc4, hasg⟩ := Cond.castable_spec hcast
  cases Option.some.inj (hc3.symm.trans hcl)
  obtain ⟨c5, hc5, hcl5⟩ := Cond.classLink_spec hown hlink e.platform hpl
  cases Option.some.inj (hc4.symm.trans hc5)
  obtain ⟨vm', X', st⟩ := X.thenCaughtThrough q (g := F0 m pc ls rest) rfl (Steps.refl _) (by rw [hT]; exact hcell) (by rw [hv]; rfl) (by obtain ⟨k9, h9, -⟩ := Vm.findClass_spec hcl; exact ⟨k9, h9⟩) pre x suf hsplit
    (fun z hz => by
      rcases hpass z hz with h | ⟨hz0, nm, hl1, hn1⟩
      · exact Or.inl h
      · obtain ⟨c6, hc6, hcl6⟩ := Cond.classLink_spec hown hl1 e.platform hpl
        obtain ⟨a8, b8, h1, h2, h3⟩ := hn1
        cases Option.some.inj (h1.symm.trans hcl)
        cases Option.some.inj (h2.symm.trans hc6)
        exact Or.inr ⟨hz0, _, hcl6, h3⟩) hx (Or.inr ⟨h0, c4, hcl5, hasg⟩)
  obtain ⟨t, a1, b1⟩ := kk (T.setVm vm') hT X'
  exact ⟨t, st.trans a1, b1⟩
end Rows
section Ends
variable {p : Program} {l : Launch} {e : Env} {R : Room} {s : State} {m : MethodId} {args : Array Value} {below : List Frame} {meth : Method} {c : Code} {H : Heap} {locs : List Loc} {cells slots : Nat} {Q : State → Prop}
variable {mc ms : Nat} {free : Addr → Prop} {A0 A1 : Nat → Prop} {H0 : Heap} {a : Array Value} {ls : Array Slot} {st0 rest : List Value}
variable {Qc : Array Value → State → Outcome → State → Prop} {XC : String → State → State → Prop}
/-- what a body that may throw owes at its end -/
def vx_MQ (below : List Frame) (Qc : Array Value → State → Outcome → State → Prop) (XC : String → State → State → Prop) (a : Array Value) (s : State) (mc ms : Nat) (free : Addr → Prop) : State → Prop := fun t =>
  ∃ o, t.status = .running ∧ Ended t below o ∧ vx_Q Qc XC mc ms free a s o t
theorem vx_ret {g : JFrame} {mc ms : Nat} (k : W p l e R s m args below meth c H locs cells slots (MQ below Qc args s mc ms free) g) : W p l e R s m args below meth c H locs cells slots (vx_MQ below Qc XC args s mc ms free) g := by
  intro T hT X
  obtain ⟨t, a1, o, b1, b2, b3, b4⟩ := k T hT X
  exact ⟨t, a1, o, b1, b2, Or.inl ⟨b3, b4⟩⟩
/-- not caught here: it goes on to the caller -/
theorem vx_widen {g : JFrame} {q : Addr} {k n : Nat} (h1 : cells ≤ k) (h2 : slots ≤ n) (kk : vx_W p l e R s m args below meth c H locs k n Q g q) : vx_W p l e R s m args below meth c H locs cells slots Q g q := fun T hT X => kk T hT (stand_widen X h1 h2)
theorem vx_out {pc : Nat} {E : String} {ce : Cell} {q : Addr} {mc ms : Nat} (hout : ∀ x ∈ c.exceptionTable.toList, covers x pc = false) (hlocks : meth.locks = false) (hcell : H[q]? = some ce) (hv : ce.vm = .none) (hcl : s.vm.findClass E = some ce.cls)
    (hx : ∀ t : State, t.heap = H → s.vm.Alike t.vm → XC E s t) (hf : ∀ z ∈ locs, free z.base) (hc : cells ≤ mc) (hs : slots ≤ ms) :
    vx_W p l e R s m args below meth c H locs cells slots (vx_MQ below Qc XC args s mc ms free) (F0 m pc ls rest) q := by
  intro T hT X
  obtain ⟨st1, hrun, hend, hW, hsm⟩ := X.leaveThrown q (g := F0 m pc ls rest) rfl rfl rfl hout hlocks
  have hcell9 : (T.setFrames (.throwing q :: below)).heap[q]? = some ce := by
    show T.heap[q]? = some ce
    rw [hT]; exact hcell
  exact ⟨_, st1, .threw q, hrun, hend, Or.inr ⟨q, rfl, E, ce, locs, hx _ hT hW.alike, hcell9, hv, hcl, hW, hsm.mono hc hs, hf⟩⟩
theorem vx_frame {U : State} {k n : Nat} (h : s.sameButNew ({ U with vm := s.vm } : State) locs k n) : s.heap.size ≤ U.heap.size ∧ ∀ q : Nat, q < s.heap.size → (∀ z ∈ locs, z.base ≠ q) → U.heap[q]? = s.heap[q]? := by
  obtain ⟨-, h2, -, -, -, h6⟩ := h
  refine ⟨h2, fun q hq hz => ?_⟩
  obtain ⟨c9, e1, e2, e3, e4⟩ := h6 q _ (Array.getElem?_eq_getElem hq)
  have hs : c9.slots = (s.heap[q]).slots := Array.ext_getElem? fun i => e4 i fun hm => hz _ hm rfl
  have h9 : c9 = s.heap[q] := by
    rw [hs] at e2
    exact e2
  have e5 : U.heap[q]? = some c9 := e1
  rw [e5, h9, Array.getElem?_eq_getElem hq]
/-- the words of a throw but the four that speak of the heap -/
def vx_no (w : Cond) : Bool := decide (w ≠ .isRef (.static Bundle.tN "UNASSIGNED_STACK" Bundle.steD)) && decide (w ≠ .isRef (.static Bundle.tN "SUPPRESSED_SENTINEL" Bundle.listD)) && decide (w ≠ .laysStatic Bundle.tN "UNASSIGNED_STACK" Bundle.steD) && decide (w ≠ .laysStatic Bundle.tN "SUPPRESSED_SENTINEL" Bundle.listD)
def vx_at0 (own : String) (ic : Nat) (X : String) (names : List String) : List Cond := (Bundle.ownAtoms0 own ic X names).filter vx_no
def vx_atS (own : String) (ic : Nat) (X : String) (names : List String) : List Cond := (Bundle.ownAtoms own ic X names).filter vx_no
/-- a word that the tables alone decide, or a good one -/
def vx_ot (w : Cond) : Bool := w.onTables || goodWord w
theorem vx_ot_at {args a' : Array Value} {s U : State} {w : Cond} (hW : s.WarmedH U.vm) (hvm : s.vm = U.vm) (hg : vx_ot w = true) (h : w.before args s = true) : w.before a' U = true := by
  simp only [vx_ot, Bool.or_eq_true] at hg
  rcases hg with hg | hg
  · exact va_tabs hg hvm h
  · exact word_at hW (good_of_word hg) h
/-- a list's words: the good ones out of the method's own list, the others by premises of their own -/
theorem vx_hat {args : Array Value} {s : State} {L B : List Cond} (h1 : ∀ w ∈ L.filter goodWord, w.before args s = true) (h2 : ∀ w ∈ L.filter (fun w => !goodWord w), w ∈ B) (h3 : ∀ w ∈ B, w.before args s = true) : ∀ w ∈ L, w.before args s = true := by
  intro w hw
  by_cases g : goodWord w = true
  · exact h1 w (List.mem_filter.mpr ⟨hw, g⟩)
  · refine h3 w (h2 w (List.mem_filter.mpr ⟨hw, ?_⟩))
    show (!goodWord w) = true
    cases hgw : goodWord w
    · rfl
    · exact absurd hgw g
theorem vx_c {args : Array Value} {s : State} {w : Cond} {B : List Cond} (h : w.before args s = true) (t : ∀ w ∈ B, w.before args s = true) : ∀ w' ∈ w :: B, w'.before args s = true := fun w' h' => (List.mem_cons.mp h').elim (fun e => by rw [e]; exact h) (t w')
theorem vx_n {args : Array Value} {s : State} : ∀ w ∈ ([] : List Cond), w.before args s = true := fun _ h => nomatch h
theorem vx_own {args : Array Value} {s : State} {L : List Cond} (h1 : ∀ w ∈ L.filter vx_no, w.before args s = true)
    (hU : (Cond.isRef (.static Bundle.tN "UNASSIGNED_STACK" Bundle.steD)).before args s = true) (hN : (Cond.isRef (.static Bundle.tN "SUPPRESSED_SENTINEL" Bundle.listD)).before args s = true)
    (lU : (Cond.laysStatic Bundle.tN "UNASSIGNED_STACK" Bundle.steD).before args s = true) (lN : (Cond.laysStatic Bundle.tN "SUPPRESSED_SENTINEL" Bundle.listD).before args s = true) : ∀ w ∈ L, w.before args s = true := by
  intro w hw
  by_cases e1 : w = .isRef (.static Bundle.tN "UNASSIGNED_STACK" Bundle.steD)
  · rw [e1]; exact hU
  · by_cases e2 : w = .isRef (.static Bundle.tN "SUPPRESSED_SENTINEL" Bundle.listD)
    · rw [e2]; exact hN
    · by_cases e3 : w = .laysStatic Bundle.tN "UNASSIGNED_STACK" Bundle.steD
      · rw [e3]; exact lU
      · by_cases e4 : w = .laysStatic Bundle.tN "SUPPRESSED_SENTINEL" Bundle.listD
        · rw [e4]; exact lN
        · exact h1 w (List.mem_filter.mpr ⟨hw, by unfold vx_no; rw [decide_eq_true e1, decide_eq_true e2, decide_eq_true e3, decide_eq_true e4]; rfl⟩)
/-- where a static field lies, its class's statics cell in H -/
def vx_L (C n d : String) (A : Nat → Prop) (U : State) (H : Heap) : Prop := ∃ (c : ClassId) (k : Class) (i : Nat) (f : Field) (a : Nat) (cell : Cell), U.vm.findClass C = some c ∧ U.fieldFound? C n d = some (c, k, i, f) ∧ f.isStatic = true ∧ k.statics = some a ∧ H[a]? = some cell ∧ cell.vm.isStatics = true ∧ cell.cls = c ∧ f.slot < cell.slots.size ∧ k.staticTypes[f.slot]? = some f.type ∧ ¬ A a
theorem vx_L.moved {C n d : String} {A : Nat → Prop} {u U : State} {H : Heap} (hvm : u.vm.Alike U.vm) (h : vx_L C n d A u H) : vx_L C n d A U H := by
  obtain ⟨c, k, i, f, a, cell, h1, h2, h3, h4, h5, h6, h7, h8, h9, h10⟩ := h
  obtain ⟨k', hi', he⟩ := State.fieldFound?_setVm hvm h2
  exact ⟨c, k', i, f, a, cell, by rw [hvm.findClass]; exact h1, hi', h3, by rw [he]; exact h4, h5, h6, h7, h8, by rw [he]; exact h9, h10⟩
theorem vx_L.kept {C n d : String} {A : Nat → Prop} {U : State} {H H1 : Heap} (h : vx_L C n d A U H) (hq : ∀ a : Nat, a < H.size → ¬ A a → H1[a]? = H[a]?) : vx_L C n d A U H1 := by
  obtain ⟨c, k, i, f, a, cell, h1, h2, h3, h4, h5, h6, h7, h8, h9, h10⟩ := h
  exact ⟨c, k, i, f, a, cell, h1, h2, h3, h4, by rw [hq a (Array.getElem?_eq_some_iff.mp h5).1 h10]; exact h5, h6, h7, h8, h9, h10⟩
theorem vx_L.narrow {C n d : String} {A B : Nat → Prop} {U : State} {H : Heap} (h : vx_L C n d A U H) (hAB : ∀ q, B q → A q) : vx_L C n d B U H := by
  obtain ⟨c, k, i, f, a, cell, h1, h2, h3, h4, h5, h6, h7, h8, h9, h10⟩ := h
  exact ⟨c, k, i, f, a, cell, h1, h2, h3, h4, h5, h6, h7, h8, h9, fun z => h10 (hAB _ z)⟩
theorem vx_L.word {C n d : String} {A : Nat → Prop} {s : State} {args : Array Value} (h : vx_L C n d A s s.heap) : (Cond.laysStatic C n d).before args s = true := by
  obtain ⟨c, k, i, f, a, cell, h1, h2, h3, h4, h5, h6, h7, h8, h9, -⟩ := h
  show (Cond.laysStatic C n d).holds args s none s [] = true
  exact Cond.laysStatic_of h1 h2 h3 h4 h5 h6 h7 h8 h9
/-- .. and what it holds: null or some reference -/
def vx_Zq (C n d : String) (A : Nat → Prop) (U : State) (H : Heap) : Prop := va_Zq C n d A U H ∧ vx_L C n d A U H
theorem vx_Zq.moved {C n d : String} {A : Nat → Prop} {u U : State} {H : Heap} (hvm : u.vm.Alike U.vm) (h : vx_Zq C n d A u H) : vx_Zq C n d A U H := ⟨va_Zq.moved hvm h.1, vx_L.moved hvm h.2⟩
theorem vx_Zq.kept {C n d : String} {A : Nat → Prop} {U : State} {H H1 : Heap} (h : vx_Zq C n d A U H) (hq : ∀ a : Nat, a < H.size → ¬ A a → H1[a]? = H[a]?) : vx_Zq C n d A U H1 := ⟨va_Zq.kept h.1 hq, vx_L.kept h.2 hq⟩
theorem vx_Zq.narrow {C n d : String} {A B : Nat → Prop} {U : State} {H : Heap} (h : vx_Zq C n d A U H) (hAB : ∀ q, B q → A q) : vx_Zq C n d B U H := ⟨va_Zq.narrow h.1 hAB, vx_L.narrow h.2 hAB⟩
theorem vx_Zqof {args : Array Value} {s : State} {C n d : String} {A : Nat → Prop} (hl : (Cond.laysStatic C n d).before args s = true) (hini : (Cond.initialized C).before args s = true) (h : (Cond.isRef (.static C n d)).before args s = true) (hA : ∀ a : Nat, a < s.heap.size → ¬ A a) : vx_Zq C n d A s s.heap := by
  refine ⟨va_Zqof hl hini h hA, ?_⟩
  obtain ⟨c, k, i, f, a, cell, h1, h2, h3, h4, h5, h6, h7, h8, h9⟩ := Cond.laysStatic_spec hl
  exact ⟨c, k, i, f, a, cell, h1, h2, h3, h4, h5, h6, h7, h8, h9, hA a (Array.getElem?_eq_some_iff.mp h5).1⟩
theorem vx_isRef {C n d : String} {v : Value} {A : Nat → Prop} {s : State} {args : Array Value} (h : va_Z C n d v A s s.heap) (hv : v.isRef = true) : (Cond.isRef (.static C n d)).before args s = true := by
  obtain ⟨cf, kf, fi, f, a, cell, h1, h2, h3, h4, h5, h6, h7, -⟩ := h
  have he : (Term.static C n d).eval args s none [] s = some v := by
    simp [Term.eval, State.fieldNamed?, h1, h2, h4, h5, h6, h7]
  simp only [Cond.before, Cond.holds, Cond.value, he]
  cases v <;> simp_all [Value.isRef]
theorem vx_isRefq {C n d : String} {A : Nat → Prop} {s : State} {args : Array Value} (h : va_Zq C n d A s s.heap) : (Cond.isRef (.static C n d)).before args s = true := by
  rcases h with h | ⟨t, h⟩
  · exact vx_isRef h rfl
  · exact vx_isRef h rfl
/-- the same frame, seen from here: as if the method were called anew in this heap -/
theorem vx_rebase {T : State} (X : Stand p l e R s m args below meth c T locs cells slots) {R' : Room} (hf : R'.frames ≤ R.frames) (hl : R'.locals ≤ R.locals) (hc : cells + R'.cells ≤ R.cells) (hs : slots + R'.slots ≤ R.slots) :
    Stand p l e R' ((T.setVm s.vm).setFrames (.invoking m args :: below)) m args below meth c T [] 0 0 := by
  have htop : (T.setVm s.vm).topJava?.isSome := X.here.top
  have hF : ((T.setVm s.vm).setFrames (.invoking m args :: below)).frames = .invoking m args :: below := State.frames_setFrames _ (State.cur_lt_of_top htop)
  obtain ⟨g₀, hg0⟩ := Option.isSome_iff_exists.mp htop
  obtain ⟨r, hr⟩ := State.topJava?_eq_some.mp hg0
  have hl9 : e.platform.stackLimits (T.setVm s.vm).me = e.platform.stackLimits s.me := X.limits
  have hb9 : (T.setVm s.vm).me.stackBytes = s.me.stackBytes := X.bytes
  refine ⟨X.admits, X.cas, X.clock, hF, ?_, X.hears, X.method, X.code, X.here, X.tail, X.warmed, ?_, ?_, ?_⟩
  · have h := X.room
    have hU : ((T.setVm s.vm).setFrames (.invoking m args :: below)).localsInUse = s.localsInUse := by
      rw [State.localsInUse_invoking hF (meth := meth) (c := c) X.method X.code, State.localsInUse_invoking X.frames X.method X.code]
    simp only [State.hasRoom, Bool.and_eq_true, decide_eq_true_eq] at h ⊢
    obtain ⟨⟨⟨⟨h1, h2, h3, h4, h5, h6⟩, h7⟩, h8⟩, h9⟩ := h
    rw [X.frames, List.length_cons] at h2 h3
    have q1 := X.heapSize
    have q2 := X.used
    simp only [hF, hU, List.length_cons, State.stackLimits_setFrames, State.stackBytes_setFrames, hl9, hb9]
    refine ⟨⟨⟨⟨by omega, by omega, by omega, by omega, by omega, h6⟩, ?_⟩, ?_⟩, X.book⟩
    · show T.heap.size + R'.cells ≤ e.platform.maxCells
      omega
    · show T.slotsUsed + R'.slots ≤ e.platform.maxSlots
      omega
  · rw [State.stackLimits_setFrames]; rfl
  · rw [State.stackBytes_setFrames]; rfl
  · refine ⟨?_, Nat.le_refl _, Nat.le_refl _, ?_, ?_, fun a c9 h9 => ⟨c9, h9, rfl, rfl, fun _ _ => rfl⟩⟩
    · obtain ⟨t, ht, -⟩ := State.frames_cons hr
      show T.setVm s.vm = { ((T.setVm s.vm).setFrames (.invoking m args :: below)).setFrames (T.setVm s.vm).frames with heap := T.heap, slotsUsed := T.slotsUsed }
      rw [State.setFrames_setFrames, State.setFrames_self ht]
      rfl
    · show T.slotsUsed = T.slotsUsed + ((T.heap.toList.drop T.heap.size).map (·.slots.size)).sum
      rw [List.drop_eq_nil_of_le (Nat.le_of_eq Array.length_toList)]
      rfl
    · show ((T.heap.toList.drop T.heap.size).map (·.slots.size)).sum ≤ 0
      rw [List.drop_eq_nil_of_le (Nat.le_of_eq Array.length_toList)]
      exact Nat.le_refl _
/-- 'throw new E()': new; dup; invokespecial; athrow -/
theorem vx_throw0 {cc : ByteArray} {pc : Nat} (hexec : p.tables.exec = Jvm.exec) (hb : c.code = cc) (hl : l.stackTraces = false) {own cls : String} {names : List String} {ik ic mc ms : Nat} {A : Nat → Prop}
    (hown : s.vm.findClass own = some m.cls) (hcls : Bundle.fit cls = true) (hnames : ∀ n ∈ names, Bundle.fit n = true)
    (hk : (Cond.classLink own ik cls).before args s = true) (hini : (Cond.initialized cls).before args s = true) (hat : ∀ w ∈ vx_at0 own ic cls names, w.before args s = true)
    (hgood : ∀ w ∈ Cond.classLink own ik cls :: Cond.initialized cls :: vx_at0 own ic cls names, vx_ot w = true)
    (hU : vx_Zq Bundle.tN "UNASSIGNED_STACK" Bundle.steD A s s.heap) (hN : vx_Zq Bundle.tN "SUPPRESSED_SENTINEL" Bundle.listD A s s.heap) (hS : va_S A s.heap H locs) (hsize : ls.size = c.maxLocals)
    (d0 : decode cc pc = .ok (.new ik, 3)) (d3 : decode cc (pc + 3) = .ok (.dup, 1)) (d4 : decode cc (pc + 4) = .ok (.invokespecial ic, 3)) (d7 : decode cc (pc + 7) = .ok (.athrow, 1))
    (hout : ∀ x ∈ c.exceptionTable.toList, covers x (pc + 7) = false)
    (hRframes : names.length + 3 < R.frames) (hRlocals : (rest.map fun v => v.category).sum + (13 * (names.length + 1) + 42) ≤ R.locals) (hRcells : cells + 1 ≤ R.cells) (hRslots : slots + 6 ≤ R.slots) (hlocks : meth.locks = false)
    (hx : ∀ t : State, s.vm.Alike t.vm → H.size ≤ t.heap.size → (∀ q : Nat, q < H.size → t.heap[q]? = H[q]?) → XC cls s t)
    (hf : ∀ z ∈ locs, free z.base) (hc : cells + 1 ≤ mc) (hs : slots + 6 ≤ ms) :
    W p l e R s m args below meth c H locs cells slots (vx_MQ below Qc XC args s mc ms free) (F0 m pc ls rest) := by
  intro T hT X
  have htr : e.platform.stackTraces = false := (show e.platform.stackTraces = l.stackTraces by rw [X.admits.platform]).trans hl
  have Y := vx_rebase X (R' := { frames := R.frames, locals := R.locals, cells := 1, slots := 6 }) (Nat.le_refl _) (Nat.le_refl _) hRcells hRslots
  obtain ⟨s', hA⟩ : ∃ z, z = (T.setVm s.vm).setFrames (.invoking m args :: below) := ⟨_, rfl⟩
  rw [← hA] at Y
  have hvm : s'.vm = s.vm := by rw [hA]; rfl
  have hhp : s'.heap = H := by rw [hA]; exact hT
  have hW0 : s.WarmedH s'.vm := by rw [hvm]; exact State.WarmedH.refl s
  have hat' : ∀ w ∈ vx_at0 own ic cls names, w.before args s' = true := fun w hw => vx_ot_at hW0 hvm.symm (hgood w (List.mem_cons_of_mem _ (List.mem_cons_of_mem _ hw))) (hat w hw)
  have hk' : (Cond.classLink own ik cls).before args s' = true := vx_ot_at hW0 hvm.symm (hgood _ List.mem_cons_self) hk
  have hini' : (Cond.initialized cls).before args s' = true := vx_ot_at hW0 hvm.symm (hgood _ (List.mem_cons_of_mem _ List.mem_cons_self)) hini
  have hU' : vx_Zq Bundle.tN "UNASSIGNED_STACK" Bundle.steD A s' s'.heap := by rw [hhp]; exact vx_Zq.moved hW0.alike (hU.kept hS.2.1)
  have hN' : vx_Zq Bundle.tN "SUPPRESSED_SENTINEL" Bundle.listD A s' s'.heap := by rw [hhp]; exact vx_Zq.moved hW0.alike (hN.kept hS.2.1)
  have h : ∀ w ∈ Bundle.ownAtoms0 own ic cls names, w.before args s' = true := vx_own hat' (vx_isRefq hU'.1) (vx_isRefq hN'.1) hU'.2.word hN'.2.word
  have hown' : s'.vm.findClass own = some m.cls := by rw [hvm]; exact hown
  have hins : (Cond.instantiable cls 6).before args s' = true := h _ (by simp [Bundle.ownAtoms0])
  obtain ⟨vm₁, cX, kX, hfX, hkX, -, -, X₁, st1⟩ := Y.newCold hexec (own := own) (C := cls) (index := ik) (n := 6) hown' hk' hins hini'
    (g := F0 m pc ls rest) rfl (by rw [hb]; exact d0) (Nat.le_refl _) (Nat.le_refl _)
  generalize hT1 : (T.setVm vm₁).pushCell { cls := cX, slots := kX.instanceTypes.map defaultValue, vm := .none } = T1 at X₁ st1
  have hcat : (Value.ref T.heap.size).category = 1 := rfl
  have hcellA : T1.heap[T.heap.size]? = some (freshCell cX kX) := by rw [← hT1]; exact State.heap_pushCell_size _ _
  have d3' : decode c.code (pc + 3) = .ok (.dup, 1) := by rw [hb]; exact d3
  obtain ⟨U, hsteps, hrun, hend, hW, hsame, ce, hce, hO⟩ := X₁.ctorThrow0 hexec htr (own := own) (cls := cls) (names := names) (ic := ic) hown' hcls hnames h (fun x hx => nomatch hx) hfX hkX hcellA (by rw [hhp, hT]; exact Nat.le_refl _)
    (g := { method := m, pc := pc + 4, locals := ls, stack := .ref T.heap.size :: .ref T.heap.size :: rest, locked := none }) rfl hsize rfl rfl (rest := rest) rfl
    (by rw [hb]; exact d4) (by rw [hb]; exact d7) hout hRframes (by simp only [List.map_cons, List.sum_cons, hcat]; omega) hlocks
  obtain ⟨f1, f2⟩ := vx_frame hsame
  rw [hhp] at f1 f2
  have hWs : s.WarmedH U.vm := State.WarmedH.trans hW0 hW
  have hcl : s.vm.findClass cls = some ce.cls := by
    have h9 := hO.cls
    rw [hvm] at h9
    exact h9
  have hall : s.sameButNew ({ U with vm := s.vm } : State) locs mc ms := by
    subst hA
    obtain ⟨e1, e2⟩ := hsame
    rw [State.setFrames_setFrames] at e1
    have h2 : (T.setVm s.vm).sameButNew ({ U with vm := s.vm } : State) [] (0 + 1) (0 + 6) := ⟨e1, e2⟩
    have h3 := X.same.trans h2
    rw [List.append_nil] at h3
    exact h3.mono hc hs
  refine ⟨U, ?_, .threw T.heap.size, hrun, hend, Or.inr ⟨T.heap.size, rfl, cls, ce, locs, hx U hWs.alike f1 (fun q hq => f2 q hq (fun z hz => nomatch hz)), hce, hO.vm, hcl, hWs, hall, hf⟩⟩
  refine st1 _ ?_
  show Steps p.tables e below (T1.setTop { method := m, pc := pc + 3, locals := ls, stack := .ref T.heap.size :: rest, locked := none }) _
  jvm_step X₁.here [X₁.here.top, hexec, d3', Value.category]
  exact hsteps
/-- 'throw new E("text")': new; dup; ldc; invokespecial; athrow -/
theorem vx_throwS {cc : ByteArray} {pc : Nat} (hexec : p.tables.exec = Jvm.exec) (hb : c.code = cc) (hl : l.stackTraces = false) {own cls text : String} {names : List String} {ik is ic mc ms sa : Nat} {A : Nat → Prop}
    (hown : s.vm.findClass own = some m.cls) (hcls : Bundle.fit cls = true) (hnames : ∀ n ∈ names, Bundle.fit n = true)
    (hk : (Cond.classLink own ik cls).before args s = true) (hini : (Cond.initialized cls).before args s = true) (hstr : vk_R own is text sa s) (hat : ∀ w ∈ vx_atS own ic cls names, w.before args s = true)
    (hgood : ∀ w ∈ Cond.classLink own ik cls :: Cond.initialized cls :: vx_atS own ic cls names, vx_ot w = true)
    (hU : vx_Zq Bundle.tN "UNASSIGNED_STACK" Bundle.steD A s s.heap) (hN : vx_Zq Bundle.tN "SUPPRESSED_SENTINEL" Bundle.listD A s s.heap) (hS : va_S A s.heap H locs) (hsize : ls.size = c.maxLocals)
    (d0 : decode cc pc = .ok (.new ik, 3)) (d3 : decode cc (pc + 3) = .ok (.dup, 1)) (d4 : decode cc (pc + 4) = .ok (.ldc is, 2)) (d6 : decode cc (pc + 6) = .ok (.invokespecial ic, 3)) (d9 : decode cc (pc + 9) = .ok (.athrow, 1))
    (hout : ∀ x ∈ c.exceptionTable.toList, covers x (pc + 9) = false)
    (hRframes : names.length + 3 < R.frames) (hRlocals : (rest.map fun v => v.category).sum + (13 * (names.length + 1) + 43) ≤ R.locals) (hRcells : cells + 1 ≤ R.cells) (hRslots : slots + 6 ≤ R.slots) (hlocks : meth.locks = false)
    (hx : ∀ t : State, s.vm.Alike t.vm → H.size ≤ t.heap.size → (∀ q : Nat, q < H.size → t.heap[q]? = H[q]?) → XC cls s t)
    (hf : ∀ z ∈ locs, free z.base) (hc : cells + 1 ≤ mc) (hs : slots + 6 ≤ ms) :
    W p l e R s m args below meth c H locs cells slots (vx_MQ below Qc XC args s mc ms free) (F0 m pc ls rest) := by
  intro T hT X
  have htr : e.platform.stackTraces = false := (show e.platform.stackTraces = l.stackTraces by rw [X.admits.platform]).trans hl
  have Y := vx_rebase X (R' := { frames := R.frames, locals := R.locals, cells := 1, slots := 6 }) (Nat.le_refl _) (Nat.le_refl _) hRcells hRslots
  obtain ⟨s', hA⟩ : ∃ z, z = (T.setVm s.vm).setFrames (.invoking m args :: below) := ⟨_, rfl⟩
  rw [← hA] at Y
  have hvm : s'.vm = s.vm := by rw [hA]; rfl
  have hhp : s'.heap = H := by rw [hA]; exact hT
  have hW0 : s.WarmedH s'.vm := by rw [hvm]; exact State.WarmedH.refl s
  have hat' : ∀ w ∈ vx_atS own ic cls names, w.before args s' = true := fun w hw => vx_ot_at hW0 hvm.symm (hgood w (List.mem_cons_of_mem _ (List.mem_cons_of_mem _ hw))) (hat w hw)
  have hk' : (Cond.classLink own ik cls).before args s' = true := vx_ot_at hW0 hvm.symm (hgood _ List.mem_cons_self) hk
  have hini' : (Cond.initialized cls).before args s' = true := vx_ot_at hW0 hvm.symm (hgood _ (List.mem_cons_of_mem _ List.mem_cons_self)) hini
  have hU' : vx_Zq Bundle.tN "UNASSIGNED_STACK" Bundle.steD A s' s'.heap := by rw [hhp]; exact vx_Zq.moved hW0.alike (hU.kept hS.2.1)
  have hN' : vx_Zq Bundle.tN "SUPPRESSED_SENTINEL" Bundle.listD A s' s'.heap := by rw [hhp]; exact vx_Zq.moved hW0.alike (hN.kept hS.2.1)
  have h : ∀ w ∈ Bundle.ownAtoms own ic cls names, w.before args s' = true := vx_own hat' (vx_isRefq hU'.1) (vx_isRefq hN'.1) hU'.2.word hN'.2.word
  have hown' : s'.vm.findClass own = some m.cls := by rw [hvm]; exact hown
  have hins : (Cond.instantiable cls 6).before args s' = true := h _ (by simp [Bundle.ownAtoms])
  obtain ⟨vm₁, cX, kX, hfX, hkX, -, -, X₁, st1⟩ := Y.newCold hexec (own := own) (C := cls) (index := ik) (n := 6) hown' hk' hins hini'
    (g := F0 m pc ls rest) rfl (by rw [hb]; exact d0) (Nat.le_refl _) (Nat.le_refl _)
  generalize hT1 : (T.setVm vm₁).pushCell { cls := cX, slots := kX.instanceTypes.map defaultValue, vm := .none } = T1 at X₁ st1
  have hcat : (Value.ref T.heap.size).category = 1 := rfl
  have hcellA : T1.heap[T.heap.size]? = some (freshCell cX kX) := by rw [← hT1]; exact State.heap_pushCell_size _ _
  have d3' : decode c.code (pc + 3) = .ok (.dup, 1) := by rw [hb]; exact d3
  have d4' : decode c.code (pc + 4) = .ok (.ldc is, 2) := by rw [hb]; exact d4
  have hstr' : vk_R own is text sa s' := vk_R.warm hW0 hstr
  obtain ⟨U, hsteps, hrun, hend, hW, hsame, ce, hce, hO⟩ := X₁.ctorThrowS hexec htr (own := own) (cls := cls) (names := names) (ic := ic) hown' hcls hnames h (fun x hx => nomatch hx) hfX hkX hcellA (by rw [hhp, hT]; exact Nat.le_refl _) (msg := .ref sa) rfl
    (g := { method := m, pc := pc + 6, locals := ls, stack := .ref sa :: .ref T.heap.size :: .ref T.heap.size :: rest, locked := none }) rfl hsize rfl rfl (rest := rest) rfl
    (by rw [hb]; exact d6) (by rw [hb]; exact d9) hout hRframes (by simp only [List.map_cons, List.sum_cons, hcat]; omega) hlocks
  obtain ⟨f1, f2⟩ := vx_frame hsame
  rw [hhp] at f1 f2
  have hWs : s.WarmedH U.vm := State.WarmedH.trans hW0 hW
  have hcl : s.vm.findClass cls = some ce.cls := by
    have h9 := hO.cls
    rw [hvm] at h9
    exact h9
  have hall : s.sameButNew ({ U with vm := s.vm } : State) locs mc ms := by
    subst hA
    obtain ⟨e1, e2⟩ := hsame
    rw [State.setFrames_setFrames] at e1
    have h2 : (T.setVm s.vm).sameButNew ({ U with vm := s.vm } : State) [] (0 + 1) (0 + 6) := ⟨e1, e2⟩
    have h3 := X.same.trans h2
    rw [List.append_nil] at h3
    exact h3.mono hc hs
  refine ⟨U, ?_, .threw T.heap.size, hrun, hend, Or.inr ⟨T.heap.size, rfl, cls, ce, locs, hx U hWs.alike f1 (fun q hq => f2 q hq (fun z hz => nomatch hz)), hce, hO.vm, hcl, hWs, hall, hf⟩⟩
  refine st1 _ ?_
  show Steps p.tables e below (T1.setTop { method := m, pc := pc + 3, locals := ls, stack := .ref T.heap.size :: rest, locked := none }) _
  jvm_step X₁.here [X₁.here.top, hexec, d3', Value.category]
  exact X₁.ldcString hexec (own := own) (text := text) (index := is) (a := sa) hown' hstr'.1 hstr'.2
    (g := { method := m, pc := pc + 4, locals := ls, stack := .ref T.heap.size :: .ref T.heap.size :: rest, locked := none }) rfl d4' _ hsteps
/-- 'throw new E("text")', the text by a wide index -/
theorem vx_throwSW {cc : ByteArray} {pc : Nat} (hexec : p.tables.exec = Jvm.exec) (hb : c.code = cc) (hl : l.stackTraces = false) {own cls text : String} {names : List String} {ik is ic mc ms sa : Nat} {A : Nat → Prop}
    (hown : s.vm.findClass own = some m.cls) (hcls : Bundle.fit cls = true) (hnames : ∀ n ∈ names, Bundle.fit n = true)
    (hk : (Cond.classLink own ik cls).before args s = true) (hini : (Cond.initialized cls).before args s = true) (hstr : vk_R own is text sa s) (hat : ∀ w ∈ vx_atS own ic cls names, w.before args s = true)
    (hgood : ∀ w ∈ Cond.classLink own ik cls :: Cond.initialized cls :: vx_atS own ic cls names, vx_ot w = true)
    (hU : vx_Zq Bundle.tN "UNASSIGNED_STACK" Bundle.steD A s s.heap) (hN : vx_Zq Bundle.tN "SUPPRESSED_SENTINEL" Bundle.listD A s s.heap) (hS : va_S A s.heap H locs) (hsize : ls.size = c.maxLocals)
    (d0 : decode cc pc = .ok (.new ik, 3)) (d3 : decode cc (pc + 3) = .ok (.dup, 1)) (d4 : decode cc (pc + 4) = .ok (.ldc_w is, 3)) (d7 : decode cc (pc + 7) = .ok (.invokespecial ic, 3)) (d10 : decode cc (pc + 10) = .ok (.athrow, 1))
    (hout : ∀ x ∈ c.exceptionTable.toList, covers x (pc + 10) = false)
    (hRframes : names.length + 3 < R.frames) (hRlocals : (rest.map fun v => v.category).sum + (13 * (names.length + 1) + 43) ≤ R.locals) (hRcells : cells + 1 ≤ R.cells) (hRslots : slots + 6 ≤ R.slots) (hlocks : meth.locks = false)
    (hx : ∀ t : State, s.vm.Alike t.vm → H.size ≤ t.heap.size → (∀ q : Nat, q < H.size → t.heap[q]? = H[q]?) → XC cls s t)
    (hf : ∀ z ∈ locs, free z.base) (hc : cells + 1 ≤ mc) (hs : slots + 6 ≤ ms) :
    W p l e R s m args below meth c H locs cells slots (vx_MQ below Qc XC args s mc ms free) (F0 m pc ls rest) := by
  intro T hT X
  have htr : e.platform.stackTraces = false := (show e.platform.stackTraces = l.stackTraces by rw [X.admits.platform]).trans hl
  have Y := vx_rebase X (R' := { frames := R.frames, locals := R.locals, cells := 1, slots := 6 }) (Nat.le_refl _) (Nat.le_refl _) hRcells hRslots
  obtain ⟨s', hA⟩ : ∃ z, z = (T.setVm s.vm).setFrames (.invoking m args :: below) := ⟨_, rfl⟩
  rw [← hA] at Y
  have hvm : s'.vm = s.vm := by rw [hA]; rfl
  have hhp : s'.heap = H := by rw [hA]; exact hT
  have hW0 : s.WarmedH s'.vm := by rw [hvm]; exact State.WarmedH.refl s
  have hat' : ∀ w ∈ vx_atS own ic cls names, w.before args s' = true := fun w hw => vx_ot_at hW0 hvm.symm (hgood w (List.mem_cons_of_mem _ (List.mem_cons_of_mem _ hw))) (hat w hw)
  have hk' : (Cond.classLink own ik cls).before args s' = true := vx_ot_at hW0 hvm.symm (hgood _ List.mem_cons_self) hk
  have hini' : (Cond.initialized cls).before args s' = true := vx_ot_at hW0 hvm.symm (hgood _ (List.mem_cons_of_mem _ List.mem_cons_self)) hini
  have hU' : vx_Zq Bundle.tN "UNASSIGNED_STACK" Bundle.steD A s' s'.heap := by rw [hhp]; exact vx_Zq.moved hW0.alike (hU.kept hS.2.1)
  have hN' : vx_Zq Bundle.tN "SUPPRESSED_SENTINEL" Bundle.listD A s' s'.heap := by rw [hhp]; exact vx_Zq.moved hW0.alike (hN.kept hS.2.1)
  have h : ∀ w ∈ Bundle.ownAtoms own ic cls names, w.before args s' = true := vx_own hat' (vx_isRefq hU'.1) (vx_isRefq hN'.1) hU'.2.word hN'.2.word
  have hown' : s'.vm.findClass own = some m.cls := by rw [hvm]; exact hown
  have hins : (Cond.instantiable cls 6).before args s' = true := h _ (by simp [Bundle.ownAtoms])
  obtain ⟨vm₁, cX, kX, hfX, hkX, -, -, X₁, st1⟩ := Y.newCold hexec (own := own) (C := cls) (index := ik) (n := 6) hown' hk' hins hini'
    (g := F0 m pc ls rest) rfl (by rw [hb]; exact d0) (Nat.le_refl _) (Nat.le_refl _)
  generalize hT1 : (T.setVm vm₁).pushCell { cls := cX, slots := kX.instanceTypes.map defaultValue, vm := .none } = T1 at X₁ st1
  have hcat : (Value.ref T.heap.size).category = 1 := rfl
  have hcellA : T1.heap[T.heap.size]? = some (freshCell cX kX) := by rw [← hT1]; exact State.heap_pushCell_size _ _
  have d3' : decode c.code (pc + 3) = .ok (.dup, 1) := by rw [hb]; exact d3
  have d4' : decode c.code (pc + 4) = .ok (.ldc_w is, 3) := by rw [hb]; exact d4
  have hstr' : vk_R own is text sa s' := vk_R.warm hW0 hstr
  obtain ⟨U, hsteps, hrun, hend, hW, hsame, ce, hce, hO⟩ := X₁.ctorThrowS hexec htr (own := own) (cls := cls) (names := names) (ic := ic) hown' hcls hnames h (fun x hx => nomatch hx) hfX hkX hcellA (by rw [hhp, hT]; exact Nat.le_refl _) (msg := .ref sa) rfl
    (g := { method := m, pc := pc + 7, locals := ls, stack := .ref sa :: .ref T.heap.size :: .ref T.heap.size :: rest, locked := none }) rfl hsize rfl rfl (rest := rest) rfl
    (by rw [hb]; exact d7) (by rw [hb]; exact d10) hout hRframes (by simp only [List.map_cons, List.sum_cons, hcat]; omega) hlocks
  obtain ⟨f1, f2⟩ := vx_frame hsame
  rw [hhp] at f1 f2
  have hWs : s.WarmedH U.vm := State.WarmedH.trans hW0 hW
  have hcl : s.vm.findClass cls = some ce.cls := by
    have h9 := hO.cls
    rw [hvm] at h9
    exact h9
  have hall : s.sameButNew ({ U with vm := s.vm } : State) locs mc ms := by
    subst hA
    obtain ⟨e1, e2⟩ := hsame
    rw [State.setFrames_setFrames] at e1
    have h2 : (T.setVm s.vm).sameButNew ({ U with vm := s.vm } : State) [] (0 + 1) (0 + 6) := ⟨e1, e2⟩
    have h3 := X.same.trans h2
    rw [List.append_nil] at h3
    exact h3.mono hc hs
  refine ⟨U, ?_, .threw T.heap.size, hrun, hend, Or.inr ⟨T.heap.size, rfl, cls, ce, locs, hx U hWs.alike f1 (fun q hq => f2 q hq (fun z hz => nomatch hz)), hce, hO.vm, hcl, hWs, hall, hf⟩⟩
  refine st1 _ ?_
  show Steps p.tables e below (T1.setTop { method := m, pc := pc + 3, locals := ls, stack := .ref T.heap.size :: rest, locked := none }) _
  jvm_step X₁.here [X₁.here.top, hexec, d3', Value.category]
  exact X₁.ldcStringW hexec (own := own) (text := text) (index := is) (a := sa) hown' hstr'.1 hstr'.2
    (g := { method := m, pc := pc + 4, locals := ls, stack := .ref T.heap.size :: .ref T.heap.size :: rest, locked := none }) rfl d4' _ hsteps
end Ends
section Bodies
variable {l : Launch}
theorem vx_ofW {y : MethodName} {ws ws' : List Cond} {rm : Room} {Pc : Array Value → State → Prop} {Qc : Array Value → State → Outcome → State → Prop} {XC : String → State → State → Prop} {mc ms : Nat} {free : Addr → Prop} {cc : ByteArray} {maxL : Nat} {ret : Option FieldType}
    (hy : plainName y.cls = true) (hw : ws = Cond.code y cc maxL ret :: ws')
    (body : ∀ p e s m args below meth c s₁, BodyLoose p l y (headSpec ws rm) cc maxL ret e s m args below meth c s₁ → c.maxLocals = maxL → (∀ x ∈ c.exceptionTable.toList, False) → Pc args s →
      W p l e (headSpec ws rm).room s m args below meth c s.heap [] 0 0 (vx_MQ below Qc XC args s mc ms free) (entryFrame m args maxL)) : vx_Met l y ws rm Pc Qc XC mc ms free := by
  refine MetFree.of_bodyS (code := cc) (maxLocals := maxL) (ret := ret) hy ?_ ?_
  · intro args s m h hn
    obtain ⟨meth, c, h1, h2, h3, h4, h5, h6, -, -⟩ := Cond.code_spec hn (atoms_spec (ws := ws) h _ (by rw [hw]; exact List.mem_cons_self))
    exact ⟨meth, c, h1, h2, h3, h4, h5, h6⟩
  · intro p e s m args below meth c s₁ B hml hP _
    have hh0 : s₁.heap = s.heap := by rw [B.state]; rfl
    have ht : ∀ x ∈ c.exceptionTable.toList, False := by
      obtain ⟨meth9, c9, h1, h2, -, -, -, -, h7, -⟩ := Cond.code_spec B.named (atoms_spec (ws := ws) B.pre _ (by rw [hw]; exact List.mem_cons_self))
      cases Option.some.inj (h1.symm.trans B.method)
      cases Option.some.inj (h2.symm.trans (Stand.of_body B).code)
      intro x hx
      rw [Array.isEmpty_iff.mp h7] at hx
      cases hx
    obtain ⟨t, a1, o, b1, b2, b3⟩ := body p e s m args below meth c s₁ B hml ht hP s₁ hh0 (Stand.of_body B)
    exact ⟨t, o, a1, b1, b2, b3⟩
/-- the table of a body with handlers -/
theorem vx_table {p : Program} {x y : MethodName} {S : Spec} {cc bytes : ByteArray} {maxL maxL' : Nat} {ret ret' : Option FieldType} {e : Env} {s s₁ : State} {m : MethodId} {args : Array Value} {below : List Frame} {meth : Method} {c : Code} {hh : List (Nat × Nat × Nat × Nat)}
    (B : BodyLoose p l y S cc maxL ret e s m args below meth c s₁) (h : (Cond.codeWith y bytes maxL' ret' hh).before args s = true) : c.exceptionTable.toList = tableOf hh := by
  obtain ⟨m9, meth9, c9, hn9, h1, h2, -, -, h6, -⟩ := Cond.codeWith_spec h
  cases Option.some.inj (hn9.symm.trans B.named)
  cases Option.some.inj (h1.symm.trans B.method)
  cases Option.some.inj (h2.symm.trans (Stand.of_body B).code)
  rw [← h6, table_eq]
end Bodies
end VXA
/-! ===== END ===== -/
/-! ===== BEGIN a static call of a method with an exception table ===== -/
section VXS
variable {p : Program} {l : Launch} {e : Env} {R : Room} {s : State} {m : MethodId} {args : Array Value} {below : List Frame} {meth : Method} {c : Code} {T : State} {H : Heap} {locs : List Loc} {cells slots : Nat}
abbrev vx_CSW (R : Room) (s : State) (args : Array Value) (own : String) (index : Nat) (y : MethodName) (bytes : ByteArray) (maxL : Nat) (ret : Option FieldType) (hh : List (Nat × Nat × Nat × Nat)) (ws : List Cond) (rm : Room) (mc ms n : Nat) : Prop :=
  (rm.cells = mc ∧ rm.slots = ms ∧ rm.frames + 1 ≤ R.frames ∧ 8 + (maxL + 11) + rm.locals ≤ R.locals ∧ (∀ w ∈ ws, ∀ (a' : Array Value) (U : State), s.WarmedH U.vm → w.before a' U = true) ∧ Cond.codeWith y bytes maxL ret hh ∈ ws) ∧
  (Cond.codeWith y bytes maxL ret hh).before args s = true ∧ (Cond.initialized y.cls).before args s = true ∧ (y.cls ≠ "java/lang/invoke/MethodHandle" ∧ y.cls ≠ "java/lang/invoke/VarHandle") ∧
  (∀ sig, parseMethodDescriptor y.desc = some sig → n = sig.parameters.length) ∧ (Cond.methodLink own index y).before args s = true ∧ (Cond.static y).before args s = true
theorem vx_cwSW {own : String} {index maxL mc ms : Nat} {y : MethodName} {bytes : ByteArray} {ret : Option FieldType} {hh : List (Nat × Nat × Nat × Nat)} {Ts ws ws' : List Cond} {rm : Room} (n : Nat) (ht : ∀ w ∈ Ts, w.before args s = true) (hT : GoodIn Ts (va_wsS own index y ws)) (hw : ws = Cond.codeWith y bytes maxL ret hh :: ws') (hrc : rm.cells = mc) (hrs : rm.slots = ms)
    (hd : y.cls ≠ "java/lang/invoke/MethodHandle" ∧ y.cls ≠ "java/lang/invoke/VarHandle" ∧ (parseMethodDescriptor y.desc).map (fun d => d.parameters.length) = some n) (hR : rm.frames + 1 ≤ R.frames ∧ 8 + (maxL + 11) + rm.locals ≤ R.locals) :
    vx_CSW R s args own index y bytes maxL ret hh ws rm mc ms n := by
  have ok : ∀ w ∈ va_wsS own index y ws, w.before args s = true := fun w h => ht w (hT w h).1
  have hG : GoodIn Ts ws := fun w h => hT w (by unfold va_wsS; exact List.mem_append_right _ h)
  have hc : Cond.codeWith y bytes maxL ret hh ∈ ws := by rw [hw]; exact List.mem_cons_self
  refine ⟨⟨hrc, hrs, hR.1, hR.2, pay_in ht hG, hc⟩, ht _ (hG _ hc).1, ok _ (by simp [va_wsS]), ⟨hd.1, hd.2.1⟩, fun sig h => ?_, ok _ (by simp [va_wsS]), ok _ (by simp [va_wsS])⟩
  have h2 := hd.2.2
  rw [h] at h2
  exact (Option.some.inj h2).symm
theorem vx_callSW (X : Stand p l e R s m args below meth c T locs cells slots) (hexec : p.tables.exec = Jvm.exec) {own : String} {index : Nat} {y : MethodName} {bytes : ByteArray} {maxL : Nat} {ret : Option FieldType} {hh : List (Nat × Nat × Nat × Nat)}
    (hown : s.vm.findClass own = some m.cls) (hlink : (Cond.methodLink own index y).before args s = true) (hstat : (Cond.static y).before args s = true) (hinit : (Cond.initialized y.cls).before args s = true)
    (hcode : (Cond.codeWith y bytes maxL ret hh).before args s = true) (hy : y.cls ≠ "java/lang/invoke/MethodHandle" ∧ y.cls ≠ "java/lang/invoke/VarHandle")
    {W9 : Nat} {Pre : Pt → Array Value → Prop} {Post : Pt → Array Value → Option Value → Pt → Prop} (hK : Back l R p e below s args y 3 W9 Pre Post)
    {g : JFrame} (hg : g.method = m) (hsize : g.locals.size = c.maxLocals) {argsL rest : List Value} (hlen : ∀ sig, parseMethodDescriptor y.desc = some sig → argsL.length = sig.parameters.length)
    (hstack : g.stack = argsL.reverse ++ rest) (hW : 2 * g.monitorRoom + (rest.map fun v => v.category).sum ≤ W9) (hdg : decode c.code g.pc = .ok (.invokestatic index, 3))
    (hpre : ∀ vm₁, s.WarmedH vm₁ → Pre ⟨T.setVm vm₁, locs, cells, slots⟩ argsL.toArray) :
    ∃ (v : Option Value) (vm₁ : Vm) (B : Pt), s.WarmedH vm₁ ∧ Stand p l e R s m args below meth c B.U B.locs B.cells B.slots ∧ Post ⟨T.setVm vm₁, locs, cells, slots⟩ argsL.toArray v B ∧
      ∀ target, Steps p.tables e below (B.U.setTop { g with pc := g.pc + 3, stack := v.toList ++ rest }) target → Steps p.tables e below (T.setTop g) target := by
  obtain ⟨mk, methM, cM, hnamed, hmethM, -, -, -, -, -, -, hsigM⟩ := Cond.codeWith_spec hcode
  have hstatic : methM.isStatic = true := Cond.static_spec hnamed hmethM hstat
  obtain ⟨kP, hkP, -⟩ := className_of_methodNamed hnamed
  have hinitP : kP.init = .initialized := Cond.initialized_spec (findClass_of_methodNamed hnamed) hkP hinit
  obtain ⟨vm₁, X₁, hstep₁⟩ := X.invokestatic hexec hown hlink hnamed hmethM hstatic hkP hinitP hy (g := g) hg (argsL := argsL) (rest := rest) (hlen _ hsigM) hstack hdg
  obtain ⟨v, B, X', hpost, hsteps⟩ := hK m meth c ⟨T.setVm vm₁, locs, cells, slots⟩ { g with stack := rest } (.invokestatic index) mk argsL.toArray X₁ hg hsize hdg hW (X₁.named hnamed) (hpre vm₁ X₁.warmed)
  exact ⟨v, vm₁, B, X₁.warmed, X', hpost, fun target h => hstep₁ _ fun acts => by rw [doInvoke_state]; exact hsteps.trans h⟩
theorem vx_runSW {y : MethodName} {bytes cc : ByteArray} {maxL nL mc ms n index : Nat} {ret : Option FieldType} {hh : List (Nat × Nat × Nat × Nat)} {ws : List Cond} {rm : Room} {Pc : Array Value → State → Prop} {Qc : Array Value → State → Outcome → State → Prop} {free : Addr → Prop} {Ts : List Cond} {own : String} {As rest : List Value} {g : JFrame}
    (S : CallFix p m c cc nL s args Ts own) (hM : Met l y ws rm Pc Qc mc ms free) (cw : vx_CSW R s args own index y bytes maxL ret hh ws rm mc ms n) (hp : PreS s H Pc As)
    (hg : g.method = m) (hn : As.length = n) (hsize : g.locals.size = nL) (hstack : g.stack = As.reverse ++ rest) (hW : 2 * g.monitorRoom + (rest.map fun v => v.category).sum ≤ 8) (hdg : decode cc g.pc = .ok (.invokestatic index, 3)) (hf : cells + mc ≤ R.cells ∧ slots + ms ≤ R.slots) :
    va_Run p l e R s m args below meth c H locs cells slots mc ms g rest (Qc As.toArray) (free) := by
  obtain ⟨⟨hrc, hrs, hfr, hlo, hws, hcw⟩, hcode, hini, hy, hlen, hl, hstt⟩ := cw
  have hK : Back l R p e below s args y 3 8 (PreOf R mc ms Pc) (PostOf Qc mc ms free) := va_backW (hh := hh) (bytes := bytes) (maxL := maxL) (ret := ret) hM hp.1 hrc hrs hfr hlo hws hcw (fun a' U hW => word_at hW (Or.inl (by first | rfl | simp [Cond.onTables, Cond.keeps, Cond.steady])) hini)
  obtain ⟨hx, hb, hml, ho, -⟩ := S
  intro T hT X
  obtain ⟨v, vm₁, ⟨U', l2, c2, s2⟩, hW₁, X', ⟨g', mk, t, L, e1, e2, hq, h1, hL, h2, h3⟩, st⟩ := vx_callSW X hx (hh := hh) (bytes := bytes) (maxL := maxL) (ret := ret) ho hl hstt hini hcode hy hK hg (hsize.trans hml.symm) (argsL := As) (rest := rest) (fun sig h => hn.trans (hlen sig h)) hstack hW (by rw [hb]; exact hdg)
    (fun vm₁ hW₁ => ⟨hf.1, hf.2, hp.2 (T.setVm vm₁) hT hW₁⟩)
  dsimp only [Pt.U, Pt.locs, Pt.cells, Pt.slots] at X' e1 e2 h1 h2 h3 st
  subst h1; subst h2; subst h3
  exact ⟨v, (T.setVm vm₁).calling g' mk As.toArray, t, U', L, hT, X', hL, e1, e2, hq, st⟩
/-- not caught here, past rows that name other classes: it goes on to the caller -/
theorem vx_outP {p : Program} {l : Launch} {e : Env} {R : Room} {s : State} {m : MethodId} {args : Array Value} {below : List Frame} {meth : Method} {c : Code} {H : Heap} {locs : List Loc} {cells slots : Nat} {free : Addr → Prop} {ls : Array Slot} {rest : List Value} {Qc : Array Value → State → Outcome → State → Prop} {XC : String → State → State → Prop}
    {pc : Nat} {own E : String} {ce : Cell} {q : Addr} {mc ms : Nat} (hown : s.vm.findClass own = some m.cls) (hlocks : meth.locks = false)
    (hpass : ∀ z ∈ c.exceptionTable.toList, covers z pc = false ∨ (z.catchType ≠ 0 ∧ ∃ nm : String, (Cond.classLink own z.catchType nm).before args s = true ∧ va_Nc E nm s)) (hcell : H[q]? = some ce) (hv : ce.vm = .none) (hcl : s.vm.findClass E = some ce.cls)
    (hx : ∀ t : State, t.heap = H → s.vm.Alike t.vm → XC E s t) (hf : ∀ z ∈ locs, free z.base) (hc : cells ≤ mc) (hs : slots ≤ ms) :
    vx_W p l e R s m args below meth c H locs cells slots (vx_MQ below Qc XC args s mc ms free) (F0 m pc ls rest) q := by
  intro T hT X
  have hpl : e.platform.magicAccessors = ({} : Platform).magicAccessors := by rw [X.admits.platform]
  obtain ⟨vm', hW', X', st⟩ := X.outThrough hlocks q (g := F0 m pc ls rest) rfl rfl rfl (cell := ce) (by rw [hT]; exact hcell) (by rw [hv]; rfl)
    (by obtain ⟨k9, h9, -⟩ := Vm.findClass_spec hcl; exact ⟨k9, h9⟩) (fun z hz => by
      rcases hpass z hz with h | ⟨hz0, nm, hl1, hn1⟩
      · exact Or.inl h
      · obtain ⟨c6, hc6, hcl6⟩ := Cond.classLink_spec hown hl1 e.platform hpl
        obtain ⟨a8, b8, h1, h2, h3⟩ := hn1
        cases Option.some.inj (h1.symm.trans hcl)
        cases Option.some.inj (h2.symm.trans hc6)
        exact Or.inr ⟨hz0, _, hcl6, h3⟩)
  obtain ⟨g₀, hfr⟩ := X'.frames_eq
  have hcell9 : ((T.setVm vm').setFrames (.throwing q :: below)).heap[q]? = some ce := by
    show T.heap[q]? = some ce
    rw [hT]; exact hcell
  have hend : Ended ((T.setVm vm').setFrames (.throwing q :: below)) below (.threw q) := State.frames_setFrames _ (State.cur_lt_of_frames hfr)
  refine ⟨(T.setVm vm').setFrames (.throwing q :: below), ?_, .threw q, X'.here.running, hend, Or.inr ⟨q, rfl, E, ce, locs, hx _ hT (X'.ends _).1.alike, hcell9, hv, hcl, (X'.ends _).1, (X'.ends _).2.mono hc hs, hf⟩⟩
  rw [X.pushThrowing_eq]
  exact st
/-- a thing of a world lies in the heap -/
theorem vx_lt {D : va_G} {cl : List vw_C} {ws : va_W} {H1 : Heap} (h : va_P D cl ws H1) {k : Nat} {q : Nat × va_E} (hk : ws[k]? = some q) : q.1 < H1.size := (h k q hk).lt
end VXS
/-! ===== END ===== -/
/-! ===== BEGIN methods with a table of their own: called by a name, returning or throwing ===== -/
section VXH
/-! vx_backW, vx_callVX, vx_callSX, vx_callVW, vx_runVW, vx_runVX, vx_runSX, vx_ofWH follow the same proofs as their sisters above (Free/Laws.lean, Shelf42/LK1.lean); vx_outP calls Shelf42/NT130.lean (outThrough). -/
section
variable {l : Launch} {R : Room} {p : Program} {e : Env} {below : List Frame} {s : State} {sargs : Array Value} {y : MethodName} {len W9 : Nat}
theorem vx_backW {ws : List Cond} {rm : Room} {Pc : Array Value → State → Prop} {Qc : Array Value → State → Outcome → State → Prop} {XC : String → State → State → Prop} {mc ms : Nat} {free : Addr → Prop} {bytes : ByteArray} {maxL : Nat} {ret : Option FieldType} {hh : List (Nat × Nat × Nat × Nat)}
    (hM : vx_Met l y ws rm Pc Qc XC mc ms free) (hblind : FrameBlind Pc) (hrc : rm.cells = mc) (hrs : rm.slots = ms)
    (hframes : rm.frames + 1 ≤ R.frames) (hlocals : W9 + (maxL + 11) + rm.locals ≤ R.locals)
    (hws : ∀ w ∈ ws, ∀ a' U, s.WarmedH U.vm → w.before a' U = true) (hcode : Cond.codeWith y bytes maxL ret hh ∈ ws) (hinit : ∀ a' U, s.WarmedH U.vm → (Cond.initialized y.cls).before a' U = true) :
    vx_Back l R p e below s sargs y len W9 (PreOf R mc ms Pc) (PostOf Qc mc ms free) (vx_Post XC mc ms free) := by
  intro m meth c A g ig mk a X hg hsize hdg hW hn hp
  have h1 : (headSpec ws rm).pre.before a A.U = true := atoms_intro fun w hw => hws w hw _ _ X.warmed
  have h2 : (Cond.codeWith y bytes maxL ret hh).before a A.U = true := hws _ hcode _ _ X.warmed
  have h3 : (Cond.initialized y.cls).before a A.U = true := hinit _ _ X.warmed
  have h4 : A.cells + (headSpec ws rm).room.cells ≤ R.cells := by rw [show (headSpec ws rm).room.cells = mc from hrc]; exact hp.1
  have h5 : A.slots + (headSpec ws rm).room.slots ≤ R.slots := by rw [show (headSpec ws rm).room.slots = ms from hrs]; exact hp.2.1
  have hPc : Pc a (A.U.calling g mk a) := hblind _ _ _ _ hp.2.2
  obtain ⟨U, Ls, c0, s0⟩ := A
  dsimp only [Pt.U, Pt.locs, Pt.cells, Pt.slots] at h1 h2 h3 h4 h5 X hn hPc ⊢
  obtain ⟨m9, methY, cY, hn9, hmY, hcY, -, hlY, -⟩ := Cond.codeWith_spec h2
  cases Option.some.inj (hn9.symm.trans hn)
  obtain ⟨kY, hkY, -⟩ := className_of_methodNamed hn
  have hinitY : kY.init = .initialized := Cond.initialized_spec (findClass_of_methodNamed hn) hkY h3
  have h : At U g.method c below := by rw [hg]; exact X.here
  have hlocals9 : W9 + (maxL + 11) + (headSpec ws rm).room.locals ≤ R.locals := hlocals
  have happ : (headSpec ws rm).appliesLoose y e.platform (U.calling g mk a) = true :=
    Spec.appliesLoose_calling (g := g) h hdg hn hkY hinitY
      (X.room_calling (g := g) (R' := (headSpec ws rm).room) hsize hmY hcY hframes (by rw [hlY]; omega) h4 h5) h1
  obtain ⟨mid, hmid⟩ := h.above
  have hfr : (U.setTop g).frames = (.java g :: mid) ++ below := by rw [State.frames_setTop' g h.top, hmid]; rfl
  obtain ⟨o, s₂, hsteps, -, hend, hq⟩ := Steps.callFree hM p X.admits X.cas X.clock (acts := []) hfr happ hPc trivial
  have hq' : vx_Q Qc XC mc ms free a (U.calling g mk a) o s₂ := hq
  rw [State.frames_setTop' g h.top] at hend
  obtain ⟨g₀, hg0⟩ := Option.isSome_iff_exists.mp h.top
  obtain ⟨r, hr⟩ := State.topJava?_eq_some.mp hg0
  have hr' : (({ U with heap := s₂.heap, slotsUsed := s₂.slotsUsed } : State).setVm s₂.vm).frames = .java g₀ :: r := hr
  rcases hq' with ⟨hqc, L, hfe, hL⟩ | ⟨q, rfl, E, ce, L, hx, hce, hcv, hcl, hW₂, hsm, hL⟩
  · obtain ⟨⟨v, rfl⟩, hW₂, e2, q2, q3, q4, q5, q6⟩ := id hfe
    have e3 : s₂ = ({ (U.calling g mk a).setFrames s₂.frames with heap := s₂.heap, slotsUsed := s₂.slotsUsed } : State).setVm s₂.vm := by
      have : s₂ = ({ s₂ with vm := (U.calling g mk a).vm } : State).setVm s₂.vm := rfl
      rw [e2] at this
      exact this
    obtain ⟨c₂, i₂, len₂, hc₂, hd₂, hf₂⟩ := hend
    have hW' : U.WarmedH s₂.vm := hW₂
    have hcc : c₂ = c := by
      have h1 : s₂.code? g.method = U.code? g.method := by
        rw [State.code?_eq, State.code?_eq, hW'.alike.method?]
      exact Option.some.inj (hc₂.symm.trans (h1.trans h.code))
    subst hcc
    have hlen : len₂ = len := by rw [hdg] at hd₂; cases hd₂; rfl
    subst hlen
    have hs₂ : s₂ = (({ U with heap := s₂.heap, slotsUsed := s₂.slotsUsed } : State).setVm s₂.vm).setTop { g with pc := g.pc + len₂, stack := v.toList ++ g.stack } := by
      refine e3.trans ?_
      rw [hf₂, State.calling_eq h.top, State.setFrames_setFrames, State.setTop_of_frames _ hr', hr]
      rfl
    have hsame : U.sameButNew ({ U with heap := s₂.heap, slotsUsed := s₂.slotsUsed } : State) L mc ms := by
      refine ⟨?_, q2, q3, q4, q5, q6⟩
      obtain ⟨t, ht, -⟩ := State.frames_cons hr
      show ({ U with heap := s₂.heap, slotsUsed := s₂.slotsUsed } : State) = { U.setFrames U.frames with heap := s₂.heap, slotsUsed := s₂.slotsUsed }
      rw [State.setFrames_self ht]
    subst hg
    refine Or.inl ⟨v, ⟨(({ U with heap := s₂.heap, slotsUsed := s₂.slotsUsed } : State).setVm s₂.vm), Ls ++ L, c0 + mc, s0 + ms⟩,
      ⟨X.admits, X.cas, X.clock, X.frames, X.room, X.hears, X.method, X.code, (X.here.setHeapUsed s₂.heap s₂.slotsUsed).setVm hW'.alike, X.tail, State.WarmedH.trans X.warmed hW', X.limits, X.bytes, X.same.trans (hsame.setVm s.vm)⟩,
      ⟨g, mk, s₂, L, rfl, rfl, hqc, rfl, hL, rfl, rfl⟩, ?_⟩
    show Steps p.tables e below _ ((({ U with heap := s₂.heap, slotsUsed := s₂.slotsUsed } : State).setVm s₂.vm).setTop { g with pc := g.pc + len₂, stack := v.toList ++ g.stack })
    rw [← hs₂]
    exact hsteps
  · obtain ⟨e2, q2, q3, q4, q5, q6⟩ := id hsm
    have e3 : s₂ = ({ (U.calling g mk a).setFrames s₂.frames with heap := s₂.heap, slotsUsed := s₂.slotsUsed } : State).setVm s₂.vm := by
      have : s₂ = ({ s₂ with vm := (U.calling g mk a).vm } : State).setVm s₂.vm := rfl
      rw [e2] at this
      exact this
    have hf₂ : s₂.frames = .throwing q :: .java g :: U.frames.tail := hend
    have hW' : U.WarmedH s₂.vm := hW₂
    have hs₂ : s₂ = ((({ U with heap := s₂.heap, slotsUsed := s₂.slotsUsed } : State).setVm s₂.vm).setTop g).pushFrame (.throwing q) := by
      refine e3.trans ?_
      rw [hf₂, State.calling_eq h.top, State.setFrames_setFrames, State.pushFrame, State.frames_setTop _ hr', State.setTop_of_frames _ hr', State.setFrames_setFrames, hr]
      rfl
    have hsame : U.sameButNew ({ U with heap := s₂.heap, slotsUsed := s₂.slotsUsed } : State) L mc ms := by
      refine ⟨?_, q2, q3, q4, q5, q6⟩
      obtain ⟨t, ht, -⟩ := State.frames_cons hr
      show ({ U with heap := s₂.heap, slotsUsed := s₂.slotsUsed } : State) = { U.setFrames U.frames with heap := s₂.heap, slotsUsed := s₂.slotsUsed }
      rw [State.setFrames_self ht]
    subst hg
    refine Or.inr ⟨q, ⟨(({ U with heap := s₂.heap, slotsUsed := s₂.slotsUsed } : State).setVm s₂.vm), Ls ++ L, c0 + mc, s0 + ms⟩,
      ⟨X.admits, X.cas, X.clock, X.frames, X.room, X.hears, X.method, X.code, (X.here.setHeapUsed s₂.heap s₂.slotsUsed).setVm hW'.alike, X.tail, State.WarmedH.trans X.warmed hW', X.limits, X.bytes, X.same.trans (hsame.setVm s.vm)⟩,
      ⟨g, mk, s₂, L, E, ce, rfl, rfl, hx, hce, hcv, hcl, rfl, hL, rfl, rfl⟩, ?_⟩
    show Steps p.tables e below _ (((({ U with heap := s₂.heap, slotsUsed := s₂.slotsUsed } : State).setVm s₂.vm).setTop g).pushFrame (.throwing q))
    rw [← hs₂]
    exact hsteps
end
variable {p : Program} {l : Launch} {e : Env} {R : Room} {s : State} {m : MethodId} {args : Array Value} {below : List Frame} {meth : Method} {c : Code} {T : State} {H : Heap} {locs : List Loc} {cells slots : Nat}
theorem vx_callVX (X : Stand p l e R s m args below meth c T locs cells slots) (hexec : p.tables.exec = Jvm.exec) {own C : String} {index : Nat} {y : MethodName} {bytes : ByteArray} {maxL : Nat} {ret : Option FieldType} {hh : List (Nat × Nat × Nat × Nat)}
    (hown : s.vm.findClass own = some m.cls) (hlink : (Cond.methodLink own index y).before args s = true) (hinst : (Cond.instanceMethod y).before args s = true) (hsel : (Cond.selects C y y).before args s = true)
    (hcode : (Cond.codeWith y bytes maxL ret hh).before args s = true) (hy : y.cls ≠ "java/lang/invoke/MethodHandle" ∧ y.cls ≠ "java/lang/invoke/VarHandle")
    {W9 : Nat} {Pre : Pt → Array Value → Prop} {Post : Pt → Array Value → Option Value → Pt → Prop} {PostX : Pt → Array Value → Addr → Pt → Prop} (hK : vx_Back l R p e below s args y 3 W9 Pre Post PostX)
    {b : Addr} {cellB : Cell} (hcell : T.heap[b]? = some cellB) (hobj : cellB.vm.isStatics = false) (hcls : s.vm.findClass C = some cellB.cls)
    {g : JFrame} (hg : g.method = m) (hsize : g.locals.size = c.maxLocals) {argsL rest : List Value} (hlen : ∀ sig, parseMethodDescriptor y.desc = some sig → argsL.length = sig.parameters.length)
    (hstack : g.stack = argsL.reverse ++ .ref b :: rest) (hW : 2 * g.monitorRoom + (rest.map fun v => v.category).sum ≤ W9) (hdg : decode c.code g.pc = .ok (.invokevirtual index, 3))
    (hpre : ∀ vm₁, s.WarmedH vm₁ → Pre ⟨T.setVm vm₁, locs, cells, slots⟩ (Value.ref b :: argsL).toArray) :
    (∃ (v : Option Value) (vm₁ : Vm) (B : Pt), s.WarmedH vm₁ ∧ Stand p l e R s m args below meth c B.U B.locs B.cells B.slots ∧ Post ⟨T.setVm vm₁, locs, cells, slots⟩ (Value.ref b :: argsL).toArray v B ∧
      ∀ target, Steps p.tables e below (B.U.setTop { g with pc := g.pc + 3, stack := v.toList ++ rest }) target → Steps p.tables e below (T.setTop g) target) ∨
    (∃ (q : Addr) (vm₁ : Vm) (B : Pt), s.WarmedH vm₁ ∧ Stand p l e R s m args below meth c B.U B.locs B.cells B.slots ∧ PostX ⟨T.setVm vm₁, locs, cells, slots⟩ (Value.ref b :: argsL).toArray q B ∧
      Steps p.tables e below (T.setTop g) ((B.U.setTop { g with stack := rest }).pushFrame (.throwing q))) := by
  obtain ⟨mk, methM, hnamed, hmethM, hstM, habM⟩ := Cond.instanceMethod_spec hinst
  obtain ⟨m8, methM', cM, hn8, hmethM', -, -, -, -, -, -, hsigM⟩ := Cond.codeWith_spec hcode
  cases Option.some.inj (hn8.symm.trans hnamed)
  cases hmethM.symm.trans hmethM'
  obtain ⟨c2, r2, m2, q1, q2, q3, q4, kP, hkP, hkPi⟩ := Cond.selects_spec hsel
  cases hcls.symm.trans q1
  cases (State.methodFound?_of_named hnamed hy).symm.trans q2
  cases hnamed.symm.trans q3
  have hselP : selectMethod e.platform s.vm cellB.cls mk = .method mk := by rw [Launch.admits_selectMethod X.admits]; exact q4
  obtain ⟨vm₁, X₁, hstep₁⟩ := X.invokevirtual hexec hown hlink hnamed hmethM hstM hkP hkPi hy (a := b) (cell := cellB) hcell
    (fun z h => by rw [h] at hobj; cases hobj) hselP hmethM habM hkP hkPi (g := g) hg (argsL := argsL) (rest := rest) (hlen _ hsigM) hstack hdg
  rcases hK m meth c ⟨T.setVm vm₁, locs, cells, slots⟩ { g with stack := rest } (.invokevirtual index) mk (Value.ref b :: argsL).toArray X₁ hg hsize hdg hW (X₁.named hnamed) (hpre vm₁ X₁.warmed) with ⟨v, B, X', hpost, hsteps⟩ | ⟨q, B, X', hpost, hsteps⟩
  · exact Or.inl ⟨v, vm₁, B, X₁.warmed, X', hpost, fun target h => hstep₁ _ fun acts => by rw [doInvoke_state]; exact hsteps.trans h⟩
  · exact Or.inr ⟨q, vm₁, B, X₁.warmed, X', hpost, hstep₁ _ fun acts => by rw [doInvoke_state]; exact hsteps⟩
theorem vx_callSX (X : Stand p l e R s m args below meth c T locs cells slots) (hexec : p.tables.exec = Jvm.exec) {own : String} {index : Nat} {y : MethodName} {bytes : ByteArray} {maxL : Nat} {ret : Option FieldType} {hh : List (Nat × Nat × Nat × Nat)}
    (hown : s.vm.findClass own = some m.cls) (hlink : (Cond.methodLink own index y).before args s = true) (hstat : (Cond.static y).before args s = true) (hinit : (Cond.initialized y.cls).before args s = true)
    (hcode : (Cond.codeWith y bytes maxL ret hh).before args s = true) (hy : y.cls ≠ "java/lang/invoke/MethodHandle" ∧ y.cls ≠ "java/lang/invoke/VarHandle")
    {W9 : Nat} {Pre : Pt → Array Value → Prop} {Post : Pt → Array Value → Option Value → Pt → Prop} {PostX : Pt → Array Value → Addr → Pt → Prop} (hK : vx_Back l R p e below s args y 3 W9 Pre Post PostX)
    {g : JFrame} (hg : g.method = m) (hsize : g.locals.size = c.maxLocals) {argsL rest : List Value} (hlen : ∀ sig, parseMethodDescriptor y.desc = some sig → argsL.length = sig.parameters.length)
    (hstack : g.stack = argsL.reverse ++ rest) (hW : 2 * g.monitorRoom + (rest.map fun v => v.category).sum ≤ W9) (hdg : decode c.code g.pc = .ok (.invokestatic index, 3))
    (hpre : ∀ vm₁, s.WarmedH vm₁ → Pre ⟨T.setVm vm₁, locs, cells, slots⟩ argsL.toArray) :
    (∃ (v : Option Value) (vm₁ : Vm) (B : Pt), s.WarmedH vm₁ ∧ Stand p l e R s m args below meth c B.U B.locs B.cells B.slots ∧ Post ⟨T.setVm vm₁, locs, cells, slots⟩ argsL.toArray v B ∧
      ∀ target, Steps p.tables e below (B.U.setTop { g with pc := g.pc + 3, stack := v.toList ++ rest }) target → Steps p.tables e below (T.setTop g) target) ∨
    (∃ (q : Addr) (vm₁ : Vm) (B : Pt), s.WarmedH vm₁ ∧ Stand p l e R s m args below meth c B.U B.locs B.cells B.slots ∧ PostX ⟨T.setVm vm₁, locs, cells, slots⟩ argsL.toArray q B ∧
      Steps p.tables e below (T.setTop g) ((B.U.setTop { g with stack := rest }).pushFrame (.throwing q))) := by
  obtain ⟨mk, methM, cM, hnamed, hmethM, -, -, -, -, -, -, hsigM⟩ := Cond.codeWith_spec hcode
  have hstatic : methM.isStatic = true := Cond.static_spec hnamed hmethM hstat
  obtain ⟨kP, hkP, -⟩ := className_of_methodNamed hnamed
  have hinitP : kP.init = .initialized := Cond.initialized_spec (findClass_of_methodNamed hnamed) hkP hinit
  obtain ⟨vm₁, X₁, hstep₁⟩ := X.invokestatic hexec hown hlink hnamed hmethM hstatic hkP hinitP hy (g := g) hg (argsL := argsL) (rest := rest) (hlen _ hsigM) hstack hdg
  rcases hK m meth c ⟨T.setVm vm₁, locs, cells, slots⟩ { g with stack := rest } (.invokestatic index) mk argsL.toArray X₁ hg hsize hdg hW (X₁.named hnamed) (hpre vm₁ X₁.warmed) with ⟨v, B, X', hpost, hsteps⟩ | ⟨q, B, X', hpost, hsteps⟩
  · exact Or.inl ⟨v, vm₁, B, X₁.warmed, X', hpost, fun target h => hstep₁ _ fun acts => by rw [doInvoke_state]; exact hsteps.trans h⟩
  · exact Or.inr ⟨q, vm₁, B, X₁.warmed, X', hpost, hstep₁ _ fun acts => by rw [doInvoke_state]; exact hsteps⟩
theorem vx_callVW (X : Stand p l e R s m args below meth c T locs cells slots) (hexec : p.tables.exec = Jvm.exec) {own C : String} {index : Nat} {y : MethodName} {bytes : ByteArray} {maxL : Nat} {ret : Option FieldType} {hh : List (Nat × Nat × Nat × Nat)}
    (hown : s.vm.findClass own = some m.cls) (hlink : (Cond.methodLink own index y).before args s = true) (hinst : (Cond.instanceMethod y).before args s = true) (hsel : (Cond.selects C y y).before args s = true)
    (hcode : (Cond.codeWith y bytes maxL ret hh).before args s = true) (hy : y.cls ≠ "java/lang/invoke/MethodHandle" ∧ y.cls ≠ "java/lang/invoke/VarHandle")
    {W9 : Nat} {Pre : Pt → Array Value → Prop} {Post : Pt → Array Value → Option Value → Pt → Prop} (hK : Back l R p e below s args y 3 W9 Pre Post)
    {b : Addr} {cellB : Cell} (hcell : T.heap[b]? = some cellB) (hobj : cellB.vm.isStatics = false) (hcls : s.vm.findClass C = some cellB.cls)
    {g : JFrame} (hg : g.method = m) (hsize : g.locals.size = c.maxLocals) {argsL rest : List Value} (hlen : ∀ sig, parseMethodDescriptor y.desc = some sig → argsL.length = sig.parameters.length)
    (hstack : g.stack = argsL.reverse ++ .ref b :: rest) (hW : 2 * g.monitorRoom + (rest.map fun v => v.category).sum ≤ W9) (hdg : decode c.code g.pc = .ok (.invokevirtual index, 3))
    (hpre : ∀ vm₁, s.WarmedH vm₁ → Pre ⟨T.setVm vm₁, locs, cells, slots⟩ (Value.ref b :: argsL).toArray) :
    ∃ (v : Option Value) (vm₁ : Vm) (B : Pt), s.WarmedH vm₁ ∧ Stand p l e R s m args below meth c B.U B.locs B.cells B.slots ∧ Post ⟨T.setVm vm₁, locs, cells, slots⟩ (Value.ref b :: argsL).toArray v B ∧
      ∀ target, Steps p.tables e below (B.U.setTop { g with pc := g.pc + 3, stack := v.toList ++ rest }) target → Steps p.tables e below (T.setTop g) target := by
  obtain ⟨mk, methM, hnamed, hmethM, hstM, habM⟩ := Cond.instanceMethod_spec hinst
  obtain ⟨m8, methM', cM, hn8, hmethM', -, -, -, -, -, -, hsigM⟩ := Cond.codeWith_spec hcode
  cases Option.some.inj (hn8.symm.trans hnamed)
  cases hmethM.symm.trans hmethM'
  obtain ⟨c2, r2, m2, q1, q2, q3, q4, kP, hkP, hkPi⟩ := Cond.selects_spec hsel
  cases hcls.symm.trans q1
  cases (State.methodFound?_of_named hnamed hy).symm.trans q2
  cases hnamed.symm.trans q3
  have hselP : selectMethod e.platform s.vm cellB.cls mk = .method mk := by rw [Launch.admits_selectMethod X.admits]; exact q4
  obtain ⟨vm₁, X₁, hstep₁⟩ := X.invokevirtual hexec hown hlink hnamed hmethM hstM hkP hkPi hy (a := b) (cell := cellB) hcell
    (fun z h => by rw [h] at hobj; cases hobj) hselP hmethM habM hkP hkPi (g := g) hg (argsL := argsL) (rest := rest) (hlen _ hsigM) hstack hdg
  obtain ⟨v, B, X', hpost, hsteps⟩ := hK m meth c ⟨T.setVm vm₁, locs, cells, slots⟩ { g with stack := rest } (.invokevirtual index) mk (Value.ref b :: argsL).toArray X₁ hg hsize hdg hW (X₁.named hnamed) (hpre vm₁ X₁.warmed)
  exact ⟨v, vm₁, B, X₁.warmed, X', hpost, fun target h => hstep₁ _ fun acts => by rw [doInvoke_state]; exact hsteps.trans h⟩
abbrev vx_CVW (R : Room) (s : State) (args : Array Value) (own C : String) (index : Nat) (y : MethodName) (bytes : ByteArray) (maxL : Nat) (ret : Option FieldType) (hh : List (Nat × Nat × Nat × Nat)) (ws : List Cond) (rm : Room) (mc ms n : Nat) : Prop :=
  (rm.cells = mc ∧ rm.slots = ms ∧ rm.frames + 1 ≤ R.frames ∧ 8 + (maxL + 11) + rm.locals ≤ R.locals ∧ (∀ w ∈ ws, ∀ (a' : Array Value) (U : State), s.WarmedH U.vm → w.before a' U = true) ∧ Cond.codeWith y bytes maxL ret hh ∈ ws) ∧
  (Cond.codeWith y bytes maxL ret hh).before args s = true ∧ (Cond.initialized y.cls).before args s = true ∧ (y.cls ≠ "java/lang/invoke/MethodHandle" ∧ y.cls ≠ "java/lang/invoke/VarHandle") ∧
  (∀ sig, parseMethodDescriptor y.desc = some sig → n = sig.parameters.length) ∧ (Cond.methodLink own index y).before args s = true ∧ (Cond.instanceMethod y).before args s = true ∧ (Cond.selects C y y).before args s = true
theorem vx_cwVW {own C : String} {index maxL mc ms : Nat} {y : MethodName} {bytes : ByteArray} {ret : Option FieldType} {hh : List (Nat × Nat × Nat × Nat)} {Ts ws ws' : List Cond} {rm : Room} (n : Nat) (ht : ∀ w ∈ Ts, w.before args s = true) (hT : GoodIn Ts (wsV own index C y ws)) (hw : ws = Cond.codeWith y bytes maxL ret hh :: ws') (hrc : rm.cells = mc) (hrs : rm.slots = ms)
    (hd : y.cls = C ∧ y.cls ≠ "java/lang/invoke/MethodHandle" ∧ y.cls ≠ "java/lang/invoke/VarHandle" ∧ (parseMethodDescriptor y.desc).map (fun d => d.parameters.length) = some n) (hR : rm.frames + 1 ≤ R.frames ∧ 8 + (maxL + 11) + rm.locals ≤ R.locals) :
    vx_CVW R s args own C index y bytes maxL ret hh ws rm mc ms n := by
  obtain ⟨hC, hd⟩ := hd
  subst hC
  have ok : ∀ w ∈ wsV own index y.cls y ws, w.before args s = true := fun w h => ht w (hT w h).1
  have hG : GoodIn Ts ws := fun w h => hT w (by unfold wsV; exact List.mem_append_right _ h)
  have hc : Cond.codeWith y bytes maxL ret hh ∈ ws := by rw [hw]; exact List.mem_cons_self
  refine ⟨⟨hrc, hrs, hR.1, hR.2, pay_in ht hG, hc⟩, ht _ (hG _ hc).1, ok _ (by simp [wsV]), ⟨hd.1, hd.2.1⟩, fun sig h => ?_, ok _ (by simp [wsV]), ok _ (by simp [wsV]), ok _ (by simp [wsV])⟩
  have h2 := hd.2.2
  rw [h] at h2
  exact (Option.some.inj h2).symm
theorem vx_runVW {y : MethodName} {bytes cc : ByteArray} {maxL nL mc ms n index : Nat} {ret : Option FieldType} {hh : List (Nat × Nat × Nat × Nat)} {ws : List Cond} {rm : Room} {Pc : Array Value → State → Prop} {Qc : Array Value → State → Outcome → State → Prop} {free : Addr → Prop} {Ts : List Cond} {own C : String} {b : Addr} {As rest : List Value} {g : JFrame}
    (S : CallFix p m c cc nL s args Ts own) (hM : Met l y ws rm Pc Qc mc ms free) (cw : vx_CVW R s args own C index y bytes maxL ret hh ws rm mc ms n) (hp : PreV s H C b Pc As)
    (hg : g.method = m) (hn : As.length = n) (hsize : g.locals.size = nL) (hstack : g.stack = As.reverse ++ .ref b :: rest) (hW : 2 * g.monitorRoom + (rest.map fun v => v.category).sum ≤ 8) (hdg : decode cc g.pc = .ok (.invokevirtual index, 3)) (hf : cells + mc ≤ R.cells ∧ slots + ms ≤ R.slots) :
    va_Run p l e R s m args below meth c H locs cells slots mc ms g rest (Qc (Value.ref b :: As).toArray) free := by
  obtain ⟨⟨hrc, hrs, hfr, hlo, hws, hcw⟩, hcode, hini, hy, hlen, hl, hin, hse⟩ := cw
  have hK : Back l R p e below s args y 3 8 (PreOf R mc ms Pc) (PostOf Qc mc ms free) := va_backW (hh := hh) (bytes := bytes) (maxL := maxL) (ret := ret) hM hp.1 hrc hrs hfr hlo hws hcw (fun a' U hW => word_at hW (Or.inl (by first | rfl | simp [Cond.onTables, Cond.keeps, Cond.steady])) hini)
  obtain ⟨hx, hb, hml, ho, -⟩ := S
  obtain ⟨-, ⟨cellB, hcB, hoB, hclB⟩, hPc⟩ := hp
  intro T hT X
  obtain ⟨v, vm₁, ⟨U', l2, c2, s2⟩, hW₁, X', ⟨g', mk, t, L, e1, e2, hq, h1, hL, h2, h3⟩, st⟩ := vx_callVW X hx (C := C) (hh := hh) (bytes := bytes) (maxL := maxL) (ret := ret) ho hl hin hse hcode hy hK (by rw [hT]; exact hcB) hoB hclB hg (hsize.trans hml.symm) (argsL := As) (rest := rest) (fun sig h => hn.trans (hlen sig h)) hstack hW (by rw [hb]; exact hdg)
    (fun vm₁ hW₁ => ⟨hf.1, hf.2, hPc (T.setVm vm₁) hT hW₁⟩)
  dsimp only [Pt.U, Pt.locs, Pt.cells, Pt.slots] at X' e1 e2 h1 h2 h3 st
  subst h1; subst h2; subst h3
  exact ⟨v, (T.setVm vm₁).calling g' mk (Value.ref b :: As).toArray, t, U', L, hT, X', hL, e1, e2, hq, st⟩
section
variable {y : MethodName} {bytes cc : ByteArray} {maxL nL mc ms n index : Nat} {ret : Option FieldType} {ws : List Cond} {rm : Room} {Pc : Array Value → State → Prop} {Qc : Array Value → State → Outcome → State → Prop} {XC : String → State → State → Prop} {free : Addr → Prop} {Ts : List Cond} {own C : String} {b : Addr} {As rest : List Value} {g : JFrame}
theorem vx_runVX {hh : List (Nat × Nat × Nat × Nat)} (S : CallFix p m c cc nL s args Ts own) (hM : vx_Met l y ws rm Pc Qc XC mc ms free) (cw : vx_CVW R s args own C index y bytes maxL ret hh ws rm mc ms n) (hp : PreV s H C b Pc As)
    (hg : g.method = m) (hn : As.length = n) (hsize : g.locals.size = nL) (hstack : g.stack = As.reverse ++ .ref b :: rest) (hW : 2 * g.monitorRoom + (rest.map fun v => v.category).sum ≤ 8) (hdg : decode cc g.pc = .ok (.invokevirtual index, 3)) (hf : cells + mc ≤ R.cells ∧ slots + ms ≤ R.slots) :
    vx_Run p l e R s m args below meth c H locs cells slots mc ms g rest (Qc (Value.ref b :: As).toArray) XC free := by
  obtain ⟨⟨hrc, hrs, hfr, hlo, hws, hcw⟩, hcode, hini, hy, hlen, hl, hin, hse⟩ := cw
  have hK : vx_Back l R p e below s args y 3 8 (PreOf R mc ms Pc) (PostOf Qc mc ms free) (vx_Post XC mc ms free) := vx_backW (hh := hh) (bytes := bytes) (maxL := maxL) (ret := ret) hM hp.1 hrc hrs hfr hlo hws hcw (fun a' U hW => word_at hW (Or.inl (by first | rfl | simp [Cond.onTables, Cond.keeps, Cond.steady])) hini)
  obtain ⟨hx, hb, hml, ho, -⟩ := S
  obtain ⟨-, ⟨cellB, hcB, hoB, hclB⟩, hPc⟩ := hp
  intro T hT X
  rcases vx_callVX X hx (C := C) (hh := hh) (bytes := bytes) (maxL := maxL) (ret := ret) ho hl hin hse hcode hy hK (by rw [hT]; exact hcB) hoB hclB hg (hsize.trans hml.symm) (argsL := As) (rest := rest) (fun sig h => hn.trans (hlen sig h)) hstack hW (by rw [hb]; exact hdg)
    (fun vm₁ hW₁ => ⟨hf.1, hf.2, hPc (T.setVm vm₁) hT hW₁⟩) with ⟨v, vm₁, ⟨U', l2, c2, s2⟩, hW₁, X', ⟨g', mk, t, L, e1, e2, hq, h1, hL, h2, h3⟩, st⟩ | ⟨q, vm₁, ⟨U', l2, c2, s2⟩, hW₁, X', ⟨g', mk, t, L, E, ce, e1, e2, hq, hce, hcv, hcl, h1, hL, h2, h3⟩, st⟩
  · dsimp only [Pt.U, Pt.locs, Pt.cells, Pt.slots] at X' e1 e2 h1 h2 h3 st
    subst h1; subst h2; subst h3
    exact Or.inl ⟨v, (T.setVm vm₁).calling g' mk (Value.ref b :: As).toArray, t, U', L, hT, X', hL, e1, e2, hq, st⟩
  · dsimp only [Pt.U, Pt.locs, Pt.cells, Pt.slots] at X' e1 e2 h1 h2 h3 st hcl
    subst h1; subst h2; subst h3
    exact Or.inr ⟨q, (T.setVm vm₁).calling g' mk (Value.ref b :: As).toArray, t, U', L, E, ce, hT, X', hL, e1, e2, hq, hce, hcv, vx_cls hW₁ hcl, st⟩
theorem vx_runSX {hh : List (Nat × Nat × Nat × Nat)} (S : CallFix p m c cc nL s args Ts own) (hM : vx_Met l y ws rm Pc Qc XC mc ms free) (cw : vx_CSW R s args own index y bytes maxL ret hh ws rm mc ms n) (hp : PreS s H Pc As)
    (hg : g.method = m) (hn : As.length = n) (hsize : g.locals.size = nL) (hstack : g.stack = As.reverse ++ rest) (hW : 2 * g.monitorRoom + (rest.map fun v => v.category).sum ≤ 8) (hdg : decode cc g.pc = .ok (.invokestatic index, 3)) (hf : cells + mc ≤ R.cells ∧ slots + ms ≤ R.slots) :
    vx_Run p l e R s m args below meth c H locs cells slots mc ms g rest (Qc As.toArray) XC free := by
  obtain ⟨⟨hrc, hrs, hfr, hlo, hws, hcw⟩, hcode, hini, hy, hlen, hl, hstt⟩ := cw
  have hK : vx_Back l R p e below s args y 3 8 (PreOf R mc ms Pc) (PostOf Qc mc ms free) (vx_Post XC mc ms free) := vx_backW (hh := hh) (bytes := bytes) (maxL := maxL) (ret := ret) hM hp.1 hrc hrs hfr hlo hws hcw (fun a' U hW => word_at hW (Or.inl (by first | rfl | simp [Cond.onTables, Cond.keeps, Cond.steady])) hini)
  obtain ⟨hx, hb, hml, ho, -⟩ := S
  intro T hT X
  rcases vx_callSX X hx (hh := hh) (bytes := bytes) (maxL := maxL) (ret := ret) ho hl hstt hini hcode hy hK hg (hsize.trans hml.symm) (argsL := As) (rest := rest) (fun sig h => hn.trans (hlen sig h)) hstack hW (by rw [hb]; exact hdg)
    (fun vm₁ hW₁ => ⟨hf.1, hf.2, hp.2 (T.setVm vm₁) hT hW₁⟩) with ⟨v, vm₁, ⟨U', l2, c2, s2⟩, hW₁, X', ⟨g', mk, t, L, e1, e2, hq, h1, hL, h2, h3⟩, st⟩ | ⟨q, vm₁, ⟨U', l2, c2, s2⟩, hW₁, X', ⟨g', mk, t, L, E, ce, e1, e2, hq, hce, hcv, hcl, h1, hL, h2, h3⟩, st⟩
  · dsimp only [Pt.U, Pt.locs, Pt.cells, Pt.slots] at X' e1 e2 h1 h2 h3 st
    subst h1; subst h2; subst h3
    exact Or.inl ⟨v, (T.setVm vm₁).calling g' mk As.toArray, t, U', L, hT, X', hL, e1, e2, hq, st⟩
  · dsimp only [Pt.U, Pt.locs, Pt.cells, Pt.slots] at X' e1 e2 h1 h2 h3 st hcl
    subst h1; subst h2; subst h3
    exact Or.inr ⟨q, (T.setVm vm₁).calling g' mk As.toArray, t, U', L, E, ce, hT, X', hL, e1, e2, hq, hce, hcv, vx_cls hW₁ hcl, st⟩
end
end VXH
theorem vx_ofWH {l : Launch} {y : MethodName} {ws ws' : List Cond} {rm : Room} {Pc : Array Value → State → Prop} {Qc : Array Value → State → Outcome → State → Prop} {XC : String → State → State → Prop} {mc ms : Nat} {free : Addr → Prop} {cc : ByteArray} {maxL : Nat} {ret : Option FieldType} {hh : List (Nat × Nat × Nat × Nat)}
    (hy : plainName y.cls = true) (hw : ws = Cond.codeWith y cc maxL ret hh :: ws')
    (body : ∀ p e s m args below meth c s₁, BodyLoose p l y (headSpec ws rm) cc maxL ret e s m args below meth c s₁ → c.maxLocals = maxL → Pc args s →
      W p l e (headSpec ws rm).room s m args below meth c s.heap [] 0 0 (vx_MQ below Qc XC args s mc ms free) (entryFrame m args maxL)) : vx_Met l y ws rm Pc Qc XC mc ms free := by
  refine MetFree.of_bodyS (code := cc) (maxLocals := maxL) (ret := ret) hy ?_ ?_
  · intro args s m h hn
    obtain ⟨m9, meth, c, hn9, h1, h2, h3, h4, -, h5, h6, -⟩ := Cond.codeWith_spec (atoms_spec (ws := ws) h _ (by rw [hw]; exact List.mem_cons_self))
    cases hn.symm.trans hn9
    exact ⟨meth, c, h1, h2, h3, h4, h5, h6⟩
  · intro p e s m args below meth c s₁ B hml hP _
    have hh0 : s₁.heap = s.heap := by rw [B.state]; rfl
    obtain ⟨t, a1, o, b1, b2, b3⟩ := body p e s m args below meth c s₁ B hml hP s₁ hh0 (Stand.of_body B)
    exact ⟨t, o, a1, b1, b2, b3⟩
/-! ===== END ===== -/

/-! ===== BEGIN printed: names, fields, word lists, decode rows ===== -/
end
section
def RX0 : String := "CoracleRace$Boat"
def TX0 : u_T := fun k => match k with
  | 0 => ("CoracleRace$Boat", "strokes", "[I", true)
  | 1 => ("CoracleRace$Boat", "length", "I", false)
  | 2 => ("CoracleRace$Boat", "strength", "I", false)
  | 3 => ("CoracleRace$Boat", "place", "I", false)
  | 4 => ("CoracleRace$Boat", "lane", "I", false)
  | 5 => ("CoracleRace$Boat", "heading", "I", false)
  | 6 => ("CoracleRace$Boat", "soaked", "I", false)
  | 7 => ("CoracleRace$Boat", "fouls", "I", false)
  | 8 => ("CoracleRace$Boat", "in", "Z", false)
  | 9 => ("CoracleRace$Boat", "tickIn", "I", false)
  | 10 => ("CoracleRace$Boat", "spins", "I", false)
  | _ => ("CoracleRace$Boat", "stops", "I", false)
def tyX0 : Nat → FieldType := fun k => match k with
  | 0 => .array .int
  | 1 => .int
  | 2 => .int
  | 3 => .int
  | 4 => .int
  | 5 => .int
  | 6 => .int
  | 7 => .int
  | 8 => .boolean
  | 9 => .int
  | 10 => .int
  | _ => .int
abbrev wsX00 : List Cond := u_ws RX0 TX0 12
theorem nmX0 : ∀ a, a < 12 → ∀ b, b < 12 → a ≠ b → (TX0 a).2.1 ≠ (TX0 b).2.1 := by decide +kernel
theorem tyX0_ok : ∀ k, k < 12 → parseFieldDescriptor (TX0 k).2.2.1 = some (tyX0 k) := by decide +kernel
abbrev cX0_init : ByteArray := prog_2_method_1_code
def yX0_init : MethodName := ⟨RX0, "<init>", "()V"⟩
abbrev cX0_start : ByteArray := prog_2_method_2_code
def yX0_start : MethodName := ⟨RX0, "start", "(II)V"⟩
abbrev cX0_copyFrom : ByteArray := prog_2_method_3_code
def yX0_copyFrom : MethodName := ⟨RX0, "copyFrom", "(LCoracleRace$Boat;)V"⟩
abbrev cX0_isIn : ByteArray := prog_2_method_4_code
def yX0_isIn : MethodName := ⟨RX0, "isIn", "()Z"⟩
abbrev cX0_time : ByteArray := prog_2_method_5_code
def yX0_time : MethodName := ⟨RX0, "time", "()I"⟩
abbrev cX0_fact : ByteArray := prog_2_method_6_code
def yX0_fact : MethodName := ⟨RX0, "fact", "(I)I"⟩
abbrev cX0_isAheadOf : ByteArray := prog_2_method_7_code
def yX0_isAheadOf : MethodName := ⟨RX0, "isAheadOf", "(LCoracleRace$Boat;)Z"⟩
abbrev cX0_takePattern : ByteArray := prog_2_method_8_code
def yX0_takePattern : MethodName := ⟨RX0, "takePattern", "(II)V"⟩
abbrev cX0_dryOut : ByteArray := prog_2_method_9_code
def yX0_dryOut : MethodName := ⟨RX0, "dryOut", "()I"⟩
abbrev cX0_letTickGoBy : ByteArray := prog_2_method_10_code
def yX0_letTickGoBy : MethodName := ⟨RX0, "letTickGoBy", "(LCoracleRace$River;I)V"⟩
abbrev cX0_strokeIn : ByteArray := prog_2_method_11_code
def yX0_strokeIn : MethodName := ⟨RX0, "strokeIn", "(I)I"⟩
abbrev cX0_forceOf : ByteArray := prog_2_method_12_code
def yX0_forceOf : MethodName := ⟨RX0, "forceOf", "(I)I"⟩
abbrev cX0_pushOf : ByteArray := prog_2_method_13_code
def yX0_pushOf : MethodName := ⟨RX0, "pushOf", "(I)I"⟩
abbrev cX0_drift : ByteArray := prog_2_method_14_code
def yX0_drift : MethodName := ⟨RX0, "drift", "()V"⟩
abbrev cX0_advance : ByteArray := prog_2_method_15_code
def yX0_advance : MethodName := ⟨RX0, "advance", "(LCoracleRace$River;I)V"⟩
abbrev cX0_soak : ByteArray := prog_2_method_16_code
def yX0_soak : MethodName := ⟨RX0, "soak", "(I)V"⟩
def RX1 : String := "CoracleRace$Fleet"
def TX1 : u_T := fun k => match k with
  | 0 => ("CoracleRace$Fleet", "boats", "[LCoracleRace$Boat;", true)
  | 1 => ("CoracleRace$Fleet", "size", "I", false)
  | _ => ("CoracleRace$Fleet", "tick", "I", false)
def tyX1 : Nat → FieldType := fun k => match k with
  | 0 => .array (.object "CoracleRace$Boat")
  | 1 => .int
  | _ => .int
abbrev wsX10 : List Cond := u_ws RX1 TX1 3
theorem nmX1 : ∀ a, a < 3 → ∀ b, b < 3 → a ≠ b → (TX1 a).2.1 ≠ (TX1 b).2.1 := by decide +kernel
theorem tyX1_ok : ∀ k, k < 3 → parseFieldDescriptor (TX1 k).2.2.1 = some (tyX1 k) := by decide +kernel
abbrev cX1_init : ByteArray := prog_3_method_1_code
def yX1_init : MethodName := ⟨RX1, "<init>", "()V"⟩
abbrev cX1_has : ByteArray := prog_3_method_2_code
def yX1_has : MethodName := ⟨RX1, "has", "(I)Z"⟩
abbrev cX1_add : ByteArray := prog_3_method_3_code
def yX1_add : MethodName := ⟨RX1, "add", "(II)I"⟩
abbrev cX1_copyFrom : ByteArray := prog_3_method_4_code
def yX1_copyFrom : MethodName := ⟨RX1, "copyFrom", "(LCoracleRace$Fleet;)V"⟩
abbrev cX1_letTicksGoBy : ByteArray := prog_3_method_5_code
def yX1_letTicksGoBy : MethodName := ⟨RX1, "letTicksGoBy", "(LCoracleRace$River;I)V"⟩
abbrev cX1_boatsIn : ByteArray := prog_3_method_6_code
def yX1_boatsIn : MethodName := ⟨RX1, "boatsIn", "()I"⟩
abbrev cX1_foulsAdded : ByteArray := prog_3_method_7_code
def yX1_foulsAdded : MethodName := ⟨RX1, "foulsAdded", "()I"⟩
abbrev cX1_placesAdded : ByteArray := prog_3_method_8_code
def yX1_placesAdded : MethodName := ⟨RX1, "placesAdded", "()I"⟩
abbrev cX1_leader : ByteArray := prog_3_method_9_code
def yX1_leader : MethodName := ⟨RX1, "leader", "()I"⟩
abbrev cX1_winner : ByteArray := prog_3_method_10_code
def yX1_winner : MethodName := ⟨RX1, "winner", "()I"⟩
abbrev cX1_rankOf : ByteArray := prog_3_method_11_code
def yX1_rankOf : MethodName := ⟨RX1, "rankOf", "(LCoracleRace$Boat;)I"⟩
def RX2 : String := "CoracleRace$River"
def TX2 : u_T := fun k => match k with
  | 0 => ("CoracleRace$River", "water", "[I", true)
  | 1 => ("CoracleRace$River", "places", "[I", true)
  | 2 => ("CoracleRace$River", "gaps", "[I", true)
  | _ => ("CoracleRace$River", "weirs", "I", false)
def tyX2 : Nat → FieldType := fun k => match k with
  | 0 => .array .int
  | 1 => .array .int
  | 2 => .array .int
  | _ => .int
abbrev wsX20 : List Cond := u_ws RX2 TX2 4
theorem nmX2 : ∀ a, a < 4 → ∀ b, b < 4 → a ≠ b → (TX2 a).2.1 ≠ (TX2 b).2.1 := by decide +kernel
theorem tyX2_ok : ∀ k, k < 4 → parseFieldDescriptor (TX2 k).2.2.1 = some (tyX2 k) := by decide +kernel
abbrev cX2_init : ByteArray := prog_4_method_1_code
def yX2_init : MethodName := ⟨RX2, "<init>", "()V"⟩
abbrev cX2_isLane : ByteArray := prog_4_method_2_code
def yX2_isLane : MethodName := ⟨RX2, "isLane", "(I)Z"⟩
abbrev cX2_hasWeirAt : ByteArray := prog_4_method_3_code
def yX2_hasWeirAt : MethodName := ⟨RX2, "hasWeirAt", "(I)Z"⟩
abbrev cX2_addWeir : ByteArray := prog_4_method_4_code
def yX2_addWeir : MethodName := ⟨RX2, "addWeir", "(II)V"⟩
abbrev cX2_firstWeirBeyond : ByteArray := prog_4_method_5_code
def yX2_firstWeirBeyond : MethodName := ⟨RX2, "firstWeirBeyond", "(I)I"⟩
abbrev cX2_firstStop : ByteArray := prog_4_method_6_code
def yX2_firstStop : MethodName := ⟨RX2, "firstStop", "(III)I"⟩
def RX3 : String := "CoracleRace"
def TX3 : u_T := fun k => match k with
  | 0 => ("CoracleRace", "river", "LCoracleRace$River;", true)
  | 1 => ("CoracleRace", "fleet", "LCoracleRace$Fleet;", true)
  | _ => ("CoracleRace", "trial", "LCoracleRace$Fleet;", true)
def tyX3 : Nat → FieldType := fun k => match k with
  | 0 => .object "CoracleRace$River"
  | 1 => .object "CoracleRace$Fleet"
  | _ => .object "CoracleRace$Fleet"
abbrev wsX30 : List Cond := u_ws RX3 TX3 3
theorem nmX3 : ∀ a, a < 3 → ∀ b, b < 3 → a ≠ b → (TX3 a).2.1 ≠ (TX3 b).2.1 := by decide +kernel
theorem tyX3_ok : ∀ k, k < 3 → parseFieldDescriptor (TX3 k).2.2.1 = some (tyX3 k) := by decide +kernel
abbrev cX3_init : ByteArray := prog_1_method_1_code
def yX3_init : MethodName := ⟨RX3, "<init>", "()V"⟩
abbrev cX3_setWater : ByteArray := prog_1_method_2_code
def yX3_setWater : MethodName := ⟨RX3, "setWater", "(II)I"⟩
abbrev cX3_weir : ByteArray := prog_1_method_3_code
def yX3_weir : MethodName := ⟨RX3, "weir", "(II)I"⟩
abbrev cX3_launch : ByteArray := prog_1_method_4_code
def yX3_launch : MethodName := ⟨RX3, "launch", "(II)I"⟩
abbrev cX3_paddle : ByteArray := prog_1_method_5_code
def yX3_paddle : MethodName := ⟨RX3, "paddle", "(III)I"⟩
abbrev cX3_tar : ByteArray := prog_1_method_6_code
def yX3_tar : MethodName := ⟨RX3, "tar", "(I)I"⟩
abbrev cX3_boat : ByteArray := prog_1_method_7_code
def yX3_boat : MethodName := ⟨RX3, "boat", "(II)I"⟩
abbrev cX3_count : ByteArray := prog_1_method_8_code
def yX3_count : MethodName := ⟨RX3, "count", "(I)I"⟩
abbrev cX3_next : ByteArray := prog_1_method_9_code
def yX3_next : MethodName := ⟨RX3, "next", "(I)I"⟩
abbrev cX3_rank : ByteArray := prog_1_method_10_code
def yX3_rank : MethodName := ⟨RX3, "rank", "(I)I"⟩
abbrev cX3_go : ByteArray := prog_1_method_11_code
def yX3_go : MethodName := ⟨RX3, "go", "(I)I"⟩
abbrev cX3_arrives : ByteArray := prog_1_method_12_code
def yX3_arrives : MethodName := ⟨RX3, "arrives", "(I)I"⟩
abbrev cX3_foresee : ByteArray := prog_1_method_13_code
def yX3_foresee : MethodName := ⟨RX3, "foresee", "(II)I"⟩
abbrev cX3_advise : ByteArray := prog_1_method_14_code
def yX3_advise : MethodName := ⟨RX3, "advise", "(II)I"⟩
abbrev cX3_mean : ByteArray := prog_1_method_15_code
def yX3_mean : MethodName := ⟨RX3, "mean", "()D"⟩
abbrev cX3_digest : ByteArray := prog_1_method_16_code
def yX3_digest : MethodName := ⟨RX3, "digest", "()J"⟩
abbrev cX3_digestWith : ByteArray := prog_1_method_17_code
def yX3_digestWith : MethodName := ⟨RX3, "digestWith", "(JLCoracleRace$Boat;)J"⟩
abbrev cX3_countIn : ByteArray := prog_1_method_18_code
def yX3_countIn : MethodName := ⟨RX3, "countIn", "(LCoracleRace$Fleet;I)I"⟩
abbrev cX3_placeWith : ByteArray := prog_1_method_19_code
def yX3_placeWith : MethodName := ⟨RX3, "placeWith", "(III)I"⟩
abbrev cX3_isPattern : ByteArray := prog_1_method_20_code
def yX3_isPattern : MethodName := ⟨RX3, "isPattern", "(II)Z"⟩
def RX4 : String := "CoracleRaceModel$State"
def TX4 : u_T := fun k => match k with
  | 0 => ("CoracleRaceModel$State", "tick", "I", false)
  | 1 => ("CoracleRaceModel$State", "place", "[I", true)
  | 2 => ("CoracleRaceModel$State", "lane", "[I", true)
  | 3 => ("CoracleRaceModel$State", "heads", "[I", true)
  | 4 => ("CoracleRaceModel$State", "soaked", "[I", true)
  | 5 => ("CoracleRaceModel$State", "fouls", "[I", true)
  | 6 => ("CoracleRaceModel$State", "came", "[I", true)
  | 7 => ("CoracleRaceModel$State", "spins", "[I", true)
  | 8 => ("CoracleRaceModel$State", "stops", "[I", true)
  | 9 => ("CoracleRaceModel$State", "length", "[I", true)
  | 10 => ("CoracleRaceModel$State", "strokes", "[I", true)
  | _ => ("CoracleRaceModel$State", "this$0", "LCoracleRaceModel;", true)
def tyX4 : Nat → FieldType := fun k => match k with
  | 0 => .int
  | 1 => .array .int
  | 2 => .array .int
  | 3 => .array .int
  | 4 => .array .int
  | 5 => .array .int
  | 6 => .array .int
  | 7 => .array .int
  | 8 => .array .int
  | 9 => .array .int
  | 10 => .array .int
  | _ => .object "CoracleRaceModel"
abbrev wsX40 : List Cond := u_ws RX4 TX4 12
theorem nmX4 : ∀ a, a < 12 → ∀ b, b < 12 → a ≠ b → (TX4 a).2.1 ≠ (TX4 b).2.1 := by decide +kernel
theorem tyX4_ok : ∀ k, k < 12 → parseFieldDescriptor (TX4 k).2.2.1 = some (tyX4 k) := by decide +kernel
abbrev cX4_init : ByteArray := prog_7_method_1_code
def yX4_init : MethodName := ⟨RX4, "<init>", "(LCoracleRaceModel;)V"⟩
abbrev cX4_copy : ByteArray := prog_7_method_2_code
def yX4_copy : MethodName := ⟨RX4, "copy", "([I[I)V"⟩
abbrev cX4_become : ByteArray := prog_7_method_3_code
def yX4_become : MethodName := ⟨RX4, "become", "(LCoracleRaceModel$State;)V"⟩
abbrev cX4_isIn : ByteArray := prog_7_method_4_code
def yX4_isIn : MethodName := ⟨RX4, "isIn", "(I)Z"⟩
abbrev cX4_time : ByteArray := prog_7_method_5_code
def yX4_time : MethodName := ⟨RX4, "time", "(I)I"⟩
abbrev cX4_stroke : ByteArray := prog_7_method_6_code
def yX4_stroke : MethodName := ⟨RX4, "stroke", "(II)I"⟩
abbrev cX4_soak : ByteArray := prog_7_method_7_code
def yX4_soak : MethodName := ⟨RX4, "soak", "(II)V"⟩
abbrev cX4_paddles : ByteArray := prog_7_method_8_code
def yX4_paddles : MethodName := ⟨RX4, "paddles", "(I)I"⟩
abbrev cX4_drift : ByteArray := prog_7_method_9_code
def yX4_drift : MethodName := ⟨RX4, "drift", "(I)V"⟩
abbrev cX4_stopsAt : ByteArray := prog_7_method_10_code
def yX4_stopsAt : MethodName := ⟨RX4, "stopsAt", "(II)I"⟩
abbrev cX4_go : ByteArray := prog_7_method_11_code
def yX4_go : MethodName := ⟨RX4, "go", "(I)V"⟩
abbrev cX4_go_ : ByteArray := prog_7_method_12_code
def yX4_go_ : MethodName := ⟨RX4, "go", "()V"⟩
abbrev cX4_in : ByteArray := prog_7_method_13_code
def yX4_in : MethodName := ⟨RX4, "in", "()I"⟩
abbrev cX4_counted : ByteArray := prog_7_method_14_code
def yX4_counted : MethodName := ⟨RX4, "counted", "(I)I"⟩
def RX5 : String := "CoracleRaceModel"
def TX5 : u_T := fun k => match k with
  | 0 => ("CoracleRaceModel", "thrown", "I", false)
  | 1 => ("CoracleRaceModel", "water", "[I", true)
  | 2 => ("CoracleRaceModel", "weirs", "I", false)
  | 3 => ("CoracleRaceModel", "weirAt", "[I", true)
  | 4 => ("CoracleRaceModel", "gap", "[I", true)
  | 5 => ("CoracleRaceModel", "boats", "I", false)
  | 6 => ("CoracleRaceModel", "strength", "[I", true)
  | 7 => ("CoracleRaceModel", "s", "LCoracleRaceModel$State;", true)
  | _ => ("CoracleRaceModel", "ahead", "LCoracleRaceModel$State;", true)
def tyX5 : Nat → FieldType := fun k => match k with
  | 0 => .int
  | 1 => .array .int
  | 2 => .int
  | 3 => .array .int
  | 4 => .array .int
  | 5 => .int
  | 6 => .array .int
  | 7 => .object "CoracleRaceModel$State"
  | _ => .object "CoracleRaceModel$State"
abbrev wsX50 : List Cond := u_ws RX5 TX5 9
theorem nmX5 : ∀ a, a < 9 → ∀ b, b < 9 → a ≠ b → (TX5 a).2.1 ≠ (TX5 b).2.1 := by decide +kernel
theorem tyX5_ok : ∀ k, k < 9 → parseFieldDescriptor (TX5 k).2.2.1 = some (tyX5 k) := by decide +kernel
abbrev cX5_init : ByteArray := prog_6_method_1_code
def yX5_init : MethodName := ⟨RX5, "<init>", "()V"⟩
abbrev cX5_thrown : ByteArray := prog_6_method_2_code
def yX5_thrown : MethodName := ⟨RX5, "thrown", "()I"⟩
abbrev cX5_no : ByteArray := prog_6_method_3_code
def yX5_no : MethodName := ⟨RX5, "no", "(I)I"⟩
abbrev cX5_isFrom : ByteArray := prog_6_method_4_code
def yX5_isFrom : MethodName := ⟨RX5, "isFrom", "(III)Z"⟩
abbrev cX5_isBoat : ByteArray := prog_6_method_5_code
def yX5_isBoat : MethodName := ⟨RX5, "isBoat", "(I)Z"⟩
abbrev cX5_setWater : ByteArray := prog_6_method_6_code
def yX5_setWater : MethodName := ⟨RX5, "setWater", "(II)I"⟩
abbrev cX5_weir : ByteArray := prog_6_method_7_code
def yX5_weir : MethodName := ⟨RX5, "weir", "(II)I"⟩
abbrev cX5_launch : ByteArray := prog_6_method_8_code
def yX5_launch : MethodName := ⟨RX5, "launch", "(II)I"⟩
abbrev cX5_isPattern : ByteArray := prog_6_method_9_code
def yX5_isPattern : MethodName := ⟨RX5, "isPattern", "(II)Z"⟩
abbrev cX5_paddle : ByteArray := prog_6_method_10_code
def yX5_paddle : MethodName := ⟨RX5, "paddle", "(III)I"⟩
abbrev cX5_tar : ByteArray := prog_6_method_11_code
def yX5_tar : MethodName := ⟨RX5, "tar", "(I)I"⟩
abbrev cX5_boatTold : ByteArray := prog_6_method_12_code
def yX5_boatTold : MethodName := ⟨RX5, "boatTold", "(II)I"⟩
abbrev cX5_boat : ByteArray := prog_6_method_13_code
def yX5_boat : MethodName := ⟨RX5, "boat", "(II)I"⟩
abbrev cX5_count : ByteArray := prog_6_method_14_code
def yX5_count : MethodName := ⟨RX5, "count", "(I)I"⟩
abbrev cX5_next : ByteArray := prog_6_method_15_code
def yX5_next : MethodName := ⟨RX5, "next", "(I)I"⟩
abbrev cX5_isAhead : ByteArray := prog_6_method_16_code
def yX5_isAhead : MethodName := ⟨RX5, "isAhead", "(II)Z"⟩
abbrev cX5_rankOf : ByteArray := prog_6_method_17_code
def yX5_rankOf : MethodName := ⟨RX5, "rankOf", "(I)I"⟩
abbrev cX5_rank : ByteArray := prog_6_method_18_code
def yX5_rank : MethodName := ⟨RX5, "rank", "(I)I"⟩
abbrev cX5_go : ByteArray := prog_6_method_19_code
def yX5_go : MethodName := ⟨RX5, "go", "(I)I"⟩
abbrev cX5_arrives : ByteArray := prog_6_method_20_code
def yX5_arrives : MethodName := ⟨RX5, "arrives", "(I)I"⟩
abbrev cX5_foresee : ByteArray := prog_6_method_21_code
def yX5_foresee : MethodName := ⟨RX5, "foresee", "(II)I"⟩
abbrev cX5_advise : ByteArray := prog_6_method_22_code
def yX5_advise : MethodName := ⟨RX5, "advise", "(II)I"⟩
abbrev cX5_mean : ByteArray := prog_6_method_23_code
def yX5_mean : MethodName := ⟨RX5, "mean", "()D"⟩
abbrev cX5_digest : ByteArray := prog_6_method_24_code
def yX5_digest : MethodName := ⟨RX5, "digest", "()J"⟩
def RJ9 : String := "java/lang/Math"
def TJ9 : u_T := fun k => match k with
  | _ => ("", "", "", false)
def tyJ9 : Nat → FieldType := fun k => match k with
  | _ => .int
abbrev wsJ90 : List Cond := u_ws RJ9 TJ9 0
theorem nmJ9 : ∀ a, a < 0 → ∀ b, b < 0 → a ≠ b → (TJ9 a).2.1 ≠ (TJ9 b).2.1 := by decide +kernel
theorem tyJ9_ok : ∀ k, k < 0 → parseFieldDescriptor (TJ9 k).2.2.1 = some (tyJ9 k) := by decide +kernel
abbrev cJ9_floorMod_7cf53 : ByteArray := prog_12_method_50_code
def yJ9_floorMod_7cf53 : MethodName := ⟨RJ9, "floorMod", "(II)I"⟩
abbrev cJ9_abs_0f7a4 : ByteArray := prog_12_method_59_code
def yJ9_abs_0f7a4 : MethodName := ⟨RJ9, "abs", "(I)I"⟩
abbrev cJ9_max_7cf53 : ByteArray := prog_12_method_65_code
def yJ9_max_7cf53 : MethodName := ⟨RJ9, "max", "(II)I"⟩
abbrev cJ9_min_7cf53 : ByteArray := prog_12_method_69_code
def yJ9_min_7cf53 : MethodName := ⟨RJ9, "min", "(II)I"⟩
def RJ0 : String := "java/lang/String"
def TJ0 : u_T := fun k => match k with
  | _ => ("", "", "", false)
def tyJ0 : Nat → FieldType := fun k => match k with
  | _ => .int
abbrev wsJ00 : List Cond := u_ws RJ0 TJ0 0
theorem nmJ0 : ∀ a, a < 0 → ∀ b, b < 0 → a ≠ b → (TJ0 a).2.1 ≠ (TJ0 b).2.1 := by decide +kernel
theorem tyJ0_ok : ∀ k, k < 0 → parseFieldDescriptor (TJ0 k).2.2.1 = some (tyJ0 k) := by decide +kernel
def RJ10 : String := "java/lang/System"
def TJ10 : u_T := fun k => match k with
  | _ => ("", "", "", false)
def tyJ10 : Nat → FieldType := fun k => match k with
  | _ => .int
abbrev wsJ100 : List Cond := u_ws RJ10 TJ10 0
theorem nmJ10 : ∀ a, a < 0 → ∀ b, b < 0 → a ≠ b → (TJ10 a).2.1 ≠ (TJ10 b).2.1 := by decide +kernel
theorem tyJ10_ok : ∀ k, k < 0 → parseFieldDescriptor (TJ10 k).2.2.1 = some (tyJ10 k) := by decide +kernel
def RL : String := "CoracleRaceLaw"
abbrev cL_setWater : ByteArray := method_3_code
def yL_setWater : MethodName := ⟨RL, "setWater", "(LCoracleRace;II[J)I"⟩
abbrev cL_weir : ByteArray := method_4_code
def yL_weir : MethodName := ⟨RL, "weir", "(LCoracleRace;II[J)I"⟩
abbrev cL_launch : ByteArray := method_5_code
def yL_launch : MethodName := ⟨RL, "launch", "(LCoracleRace;II[J)I"⟩
abbrev cL_paddle : ByteArray := method_6_code
def yL_paddle : MethodName := ⟨RL, "paddle", "(LCoracleRace;III[J)I"⟩
abbrev cL_tar : ByteArray := method_7_code
def yL_tar : MethodName := ⟨RL, "tar", "(LCoracleRace;I[J)I"⟩
abbrev cL_boat : ByteArray := method_8_code
def yL_boat : MethodName := ⟨RL, "boat", "(LCoracleRace;II[J)I"⟩
abbrev cL_count : ByteArray := method_9_code
def yL_count : MethodName := ⟨RL, "count", "(LCoracleRace;I[J)I"⟩
abbrev cL_next : ByteArray := method_10_code
def yL_next : MethodName := ⟨RL, "next", "(LCoracleRace;I[J)I"⟩
abbrev cL_rank : ByteArray := method_11_code
def yL_rank : MethodName := ⟨RL, "rank", "(LCoracleRace;I[J)I"⟩
abbrev cL_go : ByteArray := method_12_code
def yL_go : MethodName := ⟨RL, "go", "(LCoracleRace;I[J)I"⟩
abbrev cL_arrives : ByteArray := method_13_code
def yL_arrives : MethodName := ⟨RL, "arrives", "(LCoracleRace;I[J)I"⟩
abbrev cL_foresee : ByteArray := method_14_code
def yL_foresee : MethodName := ⟨RL, "foresee", "(LCoracleRace;II[J)I"⟩
abbrev cL_advise : ByteArray := method_15_code
def yL_advise : MethodName := ⟨RL, "advise", "(LCoracleRace;II[J)I"⟩
abbrev cL_law : ByteArray := code
def yL_law : MethodName := ⟨RL, "law", "([I)Z"⟩
def wsX0_init : List Cond := .code yX0_init cX0_init 1 none :: ([.methodLink RX0 1 objectInit, .instanceMethod objectInit, .code objectInit ⟨#[0xb1]⟩ 1 none, .arrayClass .int, .fieldLink RX0 9 "CoracleRace$Boat" "strokes" "[I", .fieldLink RX0 13 "CoracleRace$Boat" "length" "I", .fieldLink RX0 17 "CoracleRace$Boat" "strength" "I", .fieldLink RX0 20 "CoracleRace$Boat" "place" "I", .fieldLink RX0 23 "CoracleRace$Boat" "lane" "I", .fieldLink RX0 26 "CoracleRace$Boat" "heading" "I", .fieldLink RX0 29 "CoracleRace$Boat" "soaked" "I", .fieldLink RX0 32 "CoracleRace$Boat" "fouls" "I", .fieldLink RX0 35 "CoracleRace$Boat" "in" "Z", .fieldLink RX0 39 "CoracleRace$Boat" "tickIn" "I", .fieldLink RX0 42 "CoracleRace$Boat" "spins" "I", .fieldLink RX0 45 "CoracleRace$Boat" "stops" "I"] ++ wsX00)
def wsX0_takePattern : List Cond := .code yX0_takePattern cX0_takePattern 5 none :: ([.fieldLink RX0 9 "CoracleRace$Boat" "strokes" "[I", .fieldLink RX0 13 "CoracleRace$Boat" "length" "I"] ++ wsX00)
def wsX0_start : List Cond := .code yX0_start cX0_start 3 none :: ([.fieldLink RX0 23 "CoracleRace$Boat" "lane" "I", .fieldLink RX0 17 "CoracleRace$Boat" "strength" "I", .methodLink RX0 48 yX0_takePattern, .instanceMethod yX0_takePattern, .selects RX0 yX0_takePattern yX0_takePattern, .initialized RX0, .code yX0_takePattern cX0_takePattern 5 none, .fieldLink RX0 9 "CoracleRace$Boat" "strokes" "[I", .fieldLink RX0 13 "CoracleRace$Boat" "length" "I"] ++ wsX00)
def wsX0_copyFrom : List Cond := .code yX0_copyFrom cX0_copyFrom 2 none :: ([.fieldLink RX0 9 "CoracleRace$Boat" "strokes" "[I", .methodLink RX0 52 arraycopyName, .native arraycopyName, .static arraycopyName, .initialized "java/lang/System", .fieldLink RX0 13 "CoracleRace$Boat" "length" "I", .fieldLink RX0 17 "CoracleRace$Boat" "strength" "I", .fieldLink RX0 20 "CoracleRace$Boat" "place" "I", .fieldLink RX0 23 "CoracleRace$Boat" "lane" "I", .fieldLink RX0 26 "CoracleRace$Boat" "heading" "I", .fieldLink RX0 29 "CoracleRace$Boat" "soaked" "I", .fieldLink RX0 32 "CoracleRace$Boat" "fouls" "I", .fieldLink RX0 35 "CoracleRace$Boat" "in" "Z", .fieldLink RX0 39 "CoracleRace$Boat" "tickIn" "I", .fieldLink RX0 42 "CoracleRace$Boat" "spins" "I", .fieldLink RX0 45 "CoracleRace$Boat" "stops" "I"] ++ wsX00)
def wsX0_isIn : List Cond := .code yX0_isIn cX0_isIn 1 (some .boolean) :: ([.fieldLink RX0 35 "CoracleRace$Boat" "in" "Z"] ++ wsX00)
def wsX0_time : List Cond := .code yX0_time cX0_time 1 (some .int) :: ([.fieldLink RX0 35 "CoracleRace$Boat" "in" "Z", .fieldLink RX0 39 "CoracleRace$Boat" "tickIn" "I", .fieldLink RX0 32 "CoracleRace$Boat" "fouls" "I"] ++ wsX00)
def wsX0_fact : List Cond := .code yX0_fact cX0_fact 2 (some .int) :: ([.fieldLink RX0 20 "CoracleRace$Boat" "place" "I", .fieldLink RX0 23 "CoracleRace$Boat" "lane" "I", .fieldLink RX0 26 "CoracleRace$Boat" "heading" "I", .fieldLink RX0 29 "CoracleRace$Boat" "soaked" "I", .fieldLink RX0 32 "CoracleRace$Boat" "fouls" "I", .fieldLink RX0 35 "CoracleRace$Boat" "in" "Z", .fieldLink RX0 42 "CoracleRace$Boat" "spins" "I", .fieldLink RX0 45 "CoracleRace$Boat" "stops" "I", .methodLink RX0 58 yX0_time, .instanceMethod yX0_time, .selects RX0 yX0_time yX0_time, .initialized RX0, .code yX0_time cX0_time 1 (some .int), .fieldLink RX0 39 "CoracleRace$Boat" "tickIn" "I"] ++ wsX00)
def wsX0_isAheadOf : List Cond := .code yX0_isAheadOf cX0_isAheadOf 2 (some .boolean) :: ([.fieldLink RX0 35 "CoracleRace$Boat" "in" "Z", .fieldLink RX0 20 "CoracleRace$Boat" "place" "I", .methodLink RX0 58 yX0_time, .instanceMethod yX0_time, .selects RX0 yX0_time yX0_time, .initialized RX0, .code yX0_time cX0_time 1 (some .int), .fieldLink RX0 39 "CoracleRace$Boat" "tickIn" "I", .fieldLink RX0 32 "CoracleRace$Boat" "fouls" "I"] ++ wsX00)
def wsX0_dryOut : List Cond := .code yX0_dryOut cX0_dryOut 2 (some .int) :: ([.fieldLink RX0 29 "CoracleRace$Boat" "soaked" "I", .fieldLink RX0 32 "CoracleRace$Boat" "fouls" "I"] ++ wsX00)
def wsJ9_floorMod_7cf53 : List Cond := .code yJ9_floorMod_7cf53 cJ9_floorMod_7cf53 3 (some .int) :: ([])
def wsX0_strokeIn : List Cond := .code yX0_strokeIn cX0_strokeIn 2 (some .int) :: ([.fieldLink RX0 13 "CoracleRace$Boat" "length" "I", .fieldLink RX0 9 "CoracleRace$Boat" "strokes" "[I", .methodLink RX0 82 yJ9_floorMod_7cf53, .static yJ9_floorMod_7cf53, .initialized RJ9, .code yJ9_floorMod_7cf53 cJ9_floorMod_7cf53 3 (some .int)] ++ wsX00)
def wsX0_pushOf : List Cond := .code yX0_pushOf cX0_pushOf 2 (some .int) :: ([.fieldLink RX0 17 "CoracleRace$Boat" "strength" "I"] ++ wsX00)
def wsX0_forceOf : List Cond := .code yX0_forceOf cX0_forceOf 2 (some .int) :: ([.fieldLink RX0 26 "CoracleRace$Boat" "heading" "I", .fieldLink RX0 42 "CoracleRace$Boat" "spins" "I", .fieldLink RX0 29 "CoracleRace$Boat" "soaked" "I", .methodLink RX0 91 Lib.Math.max.name, .static Lib.Math.max.name, .initialized "java/lang/Math", .code Lib.Math.max.name Lib.Math.max.code 2 (some .int), .methodLink RX0 88 yX0_pushOf, .instanceMethod yX0_pushOf, .selects RX0 yX0_pushOf yX0_pushOf, .initialized RX0, .code yX0_pushOf cX0_pushOf 2 (some .int), .fieldLink RX0 17 "CoracleRace$Boat" "strength" "I"] ++ wsX00)
def wsX2_isLane : List Cond := .code yX2_isLane cX2_isLane 1 (some .boolean) :: ([])
def wsX0_drift : List Cond := .code yX0_drift cX0_drift 2 none :: ([.fieldLink RX0 23 "CoracleRace$Boat" "lane" "I", .fieldLink RX0 26 "CoracleRace$Boat" "heading" "I", .fieldLink RX0 32 "CoracleRace$Boat" "fouls" "I", .methodLink RX0 94 yX2_isLane, .static yX2_isLane, .initialized RX2, .code yX2_isLane cX2_isLane 1 (some .boolean)] ++ wsX00)
def wsX2_firstStop : List Cond := .code yX2_firstStop cX2_firstStop 7 (some .int) :: ([.fieldLink RX2 19 "CoracleRace$River" "weirs" "I", .fieldLink RX2 13 "CoracleRace$River" "places" "[I", .fieldLink RX2 16 "CoracleRace$River" "gaps" "[I"] ++ wsX20)
def wsX0_soak : List Cond := .code yX0_soak cX0_soak 2 none :: ([.fieldLink RX0 29 "CoracleRace$Boat" "soaked" "I", .methodLink RX0 108 Lib.Math.min.name, .static Lib.Math.min.name, .initialized "java/lang/Math", .code Lib.Math.min.name Lib.Math.min.code 2 (some .int)] ++ wsX00)
def wsX0_advance_r1 : List Cond := [Cond.fieldLink RX0 23 "CoracleRace$Boat" "lane" "I", Cond.fieldLink RX0 26 "CoracleRace$Boat" "heading" "I", Cond.methodLink RX0 98 Lib.Math.abs.name, Cond.static Lib.Math.abs.name, Cond.initialized "java/lang/Math", Cond.code Lib.Math.abs.name Lib.Math.abs.code 1 (some .int), Cond.fieldLink RX0 101 "CoracleRace$River" "water" "[I", Cond.fieldLink RX0 20 "CoracleRace$Boat" "place" "I", Cond.methodLink RX0 108 Lib.Math.min.name, Cond.static Lib.Math.min.name, Cond.code Lib.Math.min.name Lib.Math.min.code 2 (some .int), Cond.fieldLink RX0 45 "CoracleRace$Boat" "stops" "I", Cond.methodLink RX0 94 yX2_isLane, Cond.static yX2_isLane, Cond.initialized RX2, Cond.code yX2_isLane cX2_isLane 1 (some .boolean), Cond.methodLink RX0 104 yX2_firstStop, Cond.instanceMethod yX2_firstStop, Cond.selects RX2 yX2_firstStop yX2_firstStop, Cond.code yX2_firstStop cX2_firstStop 7 (some .int), Cond.fieldLink RX2 19 "CoracleRace$River" "weirs" "I", Cond.fieldLink RX2 13 "CoracleRace$River" "places" "[I", Cond.fieldLink RX2 16 "CoracleRace$River" "gaps" "[I", Cond.methodLink RX0 76 yX0_soak]
def wsX0_advance_r2 : List Cond := [Cond.instanceMethod yX0_soak, Cond.selects RX0 yX0_soak yX0_soak, Cond.initialized RX0, Cond.code yX0_soak cX0_soak 2 none, Cond.fieldLink RX0 29 "CoracleRace$Boat" "soaked" "I"]
def wsX0_advance : List Cond := .code yX0_advance cX0_advance 5 none :: ((wsX0_advance_r1 ++ wsX0_advance_r2) ++ wsX00 ++ wsX20)
def wsX0_letTickGoBy_r1 : List Cond := [Cond.fieldLink RX0 35 "CoracleRace$Boat" "in" "Z", Cond.fieldLink RX0 20 "CoracleRace$Boat" "place" "I", Cond.fieldLink RX0 39 "CoracleRace$Boat" "tickIn" "I", Cond.methodLink RX0 62 yX0_strokeIn, Cond.instanceMethod yX0_strokeIn, Cond.selects RX0 yX0_strokeIn yX0_strokeIn, Cond.initialized RX0, Cond.code yX0_strokeIn cX0_strokeIn 2 (some .int), Cond.fieldLink RX0 13 "CoracleRace$Boat" "length" "I", Cond.fieldLink RX0 9 "CoracleRace$Boat" "strokes" "[I", Cond.methodLink RX0 82 yJ9_floorMod_7cf53, Cond.static yJ9_floorMod_7cf53, Cond.initialized RJ9, Cond.code yJ9_floorMod_7cf53 cJ9_floorMod_7cf53 3 (some .int), Cond.methodLink RX0 66 yX0_forceOf, Cond.instanceMethod yX0_forceOf, Cond.selects RX0 yX0_forceOf yX0_forceOf, Cond.code yX0_forceOf cX0_forceOf 2 (some .int), Cond.fieldLink RX0 26 "CoracleRace$Boat" "heading" "I", Cond.fieldLink RX0 42 "CoracleRace$Boat" "spins" "I", Cond.fieldLink RX0 29 "CoracleRace$Boat" "soaked" "I", Cond.methodLink RX0 91 Lib.Math.max.name, Cond.static Lib.Math.max.name, Cond.initialized "java/lang/Math"]
def wsX0_letTickGoBy_r2 : List Cond := [Cond.code Lib.Math.max.name Lib.Math.max.code 2 (some .int), Cond.methodLink RX0 88 yX0_pushOf, Cond.instanceMethod yX0_pushOf, Cond.selects RX0 yX0_pushOf yX0_pushOf, Cond.code yX0_pushOf cX0_pushOf 2 (some .int), Cond.fieldLink RX0 17 "CoracleRace$Boat" "strength" "I", Cond.methodLink RX0 69 yX0_drift, Cond.instanceMethod yX0_drift, Cond.selects RX0 yX0_drift yX0_drift, Cond.code yX0_drift cX0_drift 2 none, Cond.fieldLink RX0 23 "CoracleRace$Boat" "lane" "I", Cond.fieldLink RX0 32 "CoracleRace$Boat" "fouls" "I", Cond.methodLink RX0 94 yX2_isLane, Cond.static yX2_isLane, Cond.initialized RX2, Cond.code yX2_isLane cX2_isLane 1 (some .boolean), Cond.methodLink RX0 72 yX0_advance, Cond.instanceMethod yX0_advance, Cond.selects RX0 yX0_advance yX0_advance, Cond.code yX0_advance cX0_advance 5 none, Cond.methodLink RX0 98 Lib.Math.abs.name, Cond.static Lib.Math.abs.name, Cond.code Lib.Math.abs.name Lib.Math.abs.code 1 (some .int), Cond.fieldLink RX0 101 "CoracleRace$River" "water" "[I"]
def wsX0_letTickGoBy_r3 : List Cond := [Cond.methodLink RX0 108 Lib.Math.min.name, Cond.static Lib.Math.min.name, Cond.code Lib.Math.min.name Lib.Math.min.code 2 (some .int), Cond.fieldLink RX0 45 "CoracleRace$Boat" "stops" "I", Cond.methodLink RX0 104 yX2_firstStop, Cond.instanceMethod yX2_firstStop, Cond.selects RX2 yX2_firstStop yX2_firstStop, Cond.code yX2_firstStop cX2_firstStop 7 (some .int), Cond.fieldLink RX2 19 "CoracleRace$River" "weirs" "I", Cond.fieldLink RX2 13 "CoracleRace$River" "places" "[I", Cond.fieldLink RX2 16 "CoracleRace$River" "gaps" "[I", Cond.methodLink RX0 76 yX0_soak, Cond.instanceMethod yX0_soak, Cond.selects RX0 yX0_soak yX0_soak, Cond.code yX0_soak cX0_soak 2 none]
def wsX0_letTickGoBy : List Cond := .code yX0_letTickGoBy cX0_letTickGoBy 4 none :: ((wsX0_letTickGoBy_r1 ++ (wsX0_letTickGoBy_r2 ++ wsX0_letTickGoBy_r3)) ++ wsX00 ++ wsX20)
def wsX1_init_r1 : List Cond := [Cond.methodLink RX1 1 objectInit, Cond.instanceMethod objectInit, Cond.code objectInit ⟨#[0xb1]⟩ 1 none, Cond.classLink RX1 9 RX0, Cond.fieldLink RX1 11 "CoracleRace$Fleet" "boats" "[LCoracleRace$Boat;", Cond.fieldLink RX1 15 "CoracleRace$Fleet" "size" "I", Cond.fieldLink RX1 19 "CoracleRace$Fleet" "tick" "I", Cond.instantiable RX0 12, Cond.initialized RX0, Cond.instanceMethod yX0_init, Cond.code yX0_init cX0_init 1 none, Cond.methodLink RX0 1 objectInit, Cond.arrayClass .int, Cond.fieldLink RX0 9 "CoracleRace$Boat" "strokes" "[I", Cond.fieldLink RX0 13 "CoracleRace$Boat" "length" "I", Cond.fieldLink RX0 17 "CoracleRace$Boat" "strength" "I", Cond.fieldLink RX0 20 "CoracleRace$Boat" "place" "I", Cond.fieldLink RX0 23 "CoracleRace$Boat" "lane" "I", Cond.fieldLink RX0 26 "CoracleRace$Boat" "heading" "I", Cond.fieldLink RX0 29 "CoracleRace$Boat" "soaked" "I", Cond.fieldLink RX0 32 "CoracleRace$Boat" "fouls" "I", Cond.fieldLink RX0 35 "CoracleRace$Boat" "in" "Z", Cond.fieldLink RX0 39 "CoracleRace$Boat" "tickIn" "I", Cond.fieldLink RX0 42 "CoracleRace$Boat" "spins" "I"]
def wsX1_init_r2 : List Cond := [Cond.fieldLink RX0 45 "CoracleRace$Boat" "stops" "I"]
def wsX1_init : List Cond := .code yX1_init cX1_init 2 none :: ((wsX1_init_r1 ++ wsX1_init_r2) ++ wsX10 ++ wsX00)
def wsX1_has : List Cond := .code yX1_has cX1_has 2 (some .boolean) :: ([.fieldLink RX1 15 "CoracleRace$Fleet" "size" "I"] ++ wsX10)
def wsX1_add : List Cond := .code yX1_add cX1_add 3 (some .int) :: ([.fieldLink RX1 15 "CoracleRace$Fleet" "size" "I", .fieldLink RX1 11 "CoracleRace$Fleet" "boats" "[LCoracleRace$Boat;", .methodLink RX1 23 yX0_start, .instanceMethod yX0_start, .selects RX0 yX0_start yX0_start, .initialized RX0, .code yX0_start cX0_start 3 none, .fieldLink RX0 23 "CoracleRace$Boat" "lane" "I", .fieldLink RX0 17 "CoracleRace$Boat" "strength" "I", .methodLink RX0 48 yX0_takePattern, .instanceMethod yX0_takePattern, .selects RX0 yX0_takePattern yX0_takePattern, .code yX0_takePattern cX0_takePattern 5 none, .fieldLink RX0 9 "CoracleRace$Boat" "strokes" "[I", .fieldLink RX0 13 "CoracleRace$Boat" "length" "I"] ++ wsX10 ++ wsX00)
def wsX1_copyFrom : List Cond := .code yX1_copyFrom cX1_copyFrom 3 none :: ([.fieldLink RX1 15 "CoracleRace$Fleet" "size" "I", .fieldLink RX1 19 "CoracleRace$Fleet" "tick" "I", .fieldLink RX1 11 "CoracleRace$Fleet" "boats" "[LCoracleRace$Boat;", .methodLink RX1 27 yX0_copyFrom, .instanceMethod yX0_copyFrom, .selects RX0 yX0_copyFrom yX0_copyFrom, .initialized RX0, .code yX0_copyFrom cX0_copyFrom 2 none, .fieldLink RX0 9 "CoracleRace$Boat" "strokes" "[I", .methodLink RX0 52 arraycopyName, .native arraycopyName, .static arraycopyName, .initialized "java/lang/System", .fieldLink RX0 13 "CoracleRace$Boat" "length" "I", .fieldLink RX0 17 "CoracleRace$Boat" "strength" "I", .fieldLink RX0 20 "CoracleRace$Boat" "place" "I", .fieldLink RX0 23 "CoracleRace$Boat" "lane" "I", .fieldLink RX0 26 "CoracleRace$Boat" "heading" "I", .fieldLink RX0 29 "CoracleRace$Boat" "soaked" "I", .fieldLink RX0 32 "CoracleRace$Boat" "fouls" "I", .fieldLink RX0 35 "CoracleRace$Boat" "in" "Z", .fieldLink RX0 39 "CoracleRace$Boat" "tickIn" "I", .fieldLink RX0 42 "CoracleRace$Boat" "spins" "I", .fieldLink RX0 45 "CoracleRace$Boat" "stops" "I"] ++ wsX10 ++ wsX00)
def wsX1_letTicksGoBy_r1 : List Cond := [Cond.fieldLink RX1 15 "CoracleRace$Fleet" "size" "I", Cond.fieldLink RX1 11 "CoracleRace$Fleet" "boats" "[LCoracleRace$Boat;", Cond.fieldLink RX1 19 "CoracleRace$Fleet" "tick" "I", Cond.methodLink RX1 31 yX0_letTickGoBy, Cond.instanceMethod yX0_letTickGoBy, Cond.selects RX0 yX0_letTickGoBy yX0_letTickGoBy, Cond.initialized RX0, Cond.code yX0_letTickGoBy cX0_letTickGoBy 4 none, Cond.fieldLink RX0 35 "CoracleRace$Boat" "in" "Z", Cond.fieldLink RX0 20 "CoracleRace$Boat" "place" "I", Cond.fieldLink RX0 39 "CoracleRace$Boat" "tickIn" "I", Cond.methodLink RX0 62 yX0_strokeIn, Cond.instanceMethod yX0_strokeIn, Cond.selects RX0 yX0_strokeIn yX0_strokeIn, Cond.code yX0_strokeIn cX0_strokeIn 2 (some .int), Cond.fieldLink RX0 13 "CoracleRace$Boat" "length" "I", Cond.fieldLink RX0 9 "CoracleRace$Boat" "strokes" "[I", Cond.methodLink RX0 82 yJ9_floorMod_7cf53, Cond.static yJ9_floorMod_7cf53, Cond.initialized RJ9, Cond.code yJ9_floorMod_7cf53 cJ9_floorMod_7cf53 3 (some .int), Cond.methodLink RX0 66 yX0_forceOf, Cond.instanceMethod yX0_forceOf, Cond.selects RX0 yX0_forceOf yX0_forceOf]
def wsX1_letTicksGoBy_r2 : List Cond := [Cond.code yX0_forceOf cX0_forceOf 2 (some .int), Cond.fieldLink RX0 26 "CoracleRace$Boat" "heading" "I", Cond.fieldLink RX0 42 "CoracleRace$Boat" "spins" "I", Cond.fieldLink RX0 29 "CoracleRace$Boat" "soaked" "I", Cond.methodLink RX0 91 Lib.Math.max.name, Cond.static Lib.Math.max.name, Cond.initialized "java/lang/Math", Cond.code Lib.Math.max.name Lib.Math.max.code 2 (some .int), Cond.methodLink RX0 88 yX0_pushOf, Cond.instanceMethod yX0_pushOf, Cond.selects RX0 yX0_pushOf yX0_pushOf, Cond.code yX0_pushOf cX0_pushOf 2 (some .int), Cond.fieldLink RX0 17 "CoracleRace$Boat" "strength" "I", Cond.methodLink RX0 69 yX0_drift, Cond.instanceMethod yX0_drift, Cond.selects RX0 yX0_drift yX0_drift, Cond.code yX0_drift cX0_drift 2 none, Cond.fieldLink RX0 23 "CoracleRace$Boat" "lane" "I", Cond.fieldLink RX0 32 "CoracleRace$Boat" "fouls" "I", Cond.methodLink RX0 94 yX2_isLane, Cond.static yX2_isLane, Cond.initialized RX2, Cond.code yX2_isLane cX2_isLane 1 (some .boolean), Cond.methodLink RX0 72 yX0_advance]
def wsX1_letTicksGoBy_r3 : List Cond := [Cond.instanceMethod yX0_advance, Cond.selects RX0 yX0_advance yX0_advance, Cond.code yX0_advance cX0_advance 5 none, Cond.methodLink RX0 98 Lib.Math.abs.name, Cond.static Lib.Math.abs.name, Cond.code Lib.Math.abs.name Lib.Math.abs.code 1 (some .int), Cond.fieldLink RX0 101 "CoracleRace$River" "water" "[I", Cond.methodLink RX0 108 Lib.Math.min.name, Cond.static Lib.Math.min.name, Cond.code Lib.Math.min.name Lib.Math.min.code 2 (some .int), Cond.fieldLink RX0 45 "CoracleRace$Boat" "stops" "I", Cond.methodLink RX0 104 yX2_firstStop, Cond.instanceMethod yX2_firstStop, Cond.selects RX2 yX2_firstStop yX2_firstStop, Cond.code yX2_firstStop cX2_firstStop 7 (some .int), Cond.fieldLink RX2 19 "CoracleRace$River" "weirs" "I", Cond.fieldLink RX2 13 "CoracleRace$River" "places" "[I", Cond.fieldLink RX2 16 "CoracleRace$River" "gaps" "[I", Cond.methodLink RX0 76 yX0_soak, Cond.instanceMethod yX0_soak, Cond.selects RX0 yX0_soak yX0_soak, Cond.code yX0_soak cX0_soak 2 none]
def wsX1_letTicksGoBy : List Cond := .code yX1_letTicksGoBy cX1_letTicksGoBy 5 none :: ((wsX1_letTicksGoBy_r1 ++ (wsX1_letTicksGoBy_r2 ++ wsX1_letTicksGoBy_r3)) ++ wsX10 ++ wsX00 ++ wsX20)
def wsX1_boatsIn : List Cond := .code yX1_boatsIn cX1_boatsIn 3 (some .int) :: ([.fieldLink RX1 15 "CoracleRace$Fleet" "size" "I", .fieldLink RX1 11 "CoracleRace$Fleet" "boats" "[LCoracleRace$Boat;", .methodLink RX1 35 yX0_isIn, .instanceMethod yX0_isIn, .selects RX0 yX0_isIn yX0_isIn, .initialized RX0, .code yX0_isIn cX0_isIn 1 (some .boolean), .fieldLink RX0 35 "CoracleRace$Boat" "in" "Z"] ++ wsX10 ++ wsX00)
def wsX1_foulsAdded : List Cond := .code yX1_foulsAdded cX1_foulsAdded 3 (some .int) :: ([.fieldLink RX1 15 "CoracleRace$Fleet" "size" "I", .fieldLink RX1 11 "CoracleRace$Fleet" "boats" "[LCoracleRace$Boat;", .fieldLink RX1 39 "CoracleRace$Boat" "fouls" "I"] ++ wsX10 ++ wsX00)
def wsX1_placesAdded : List Cond := .code yX1_placesAdded cX1_placesAdded 3 (some .int) :: ([.fieldLink RX1 15 "CoracleRace$Fleet" "size" "I", .fieldLink RX1 11 "CoracleRace$Fleet" "boats" "[LCoracleRace$Boat;", .fieldLink RX1 42 "CoracleRace$Boat" "place" "I"] ++ wsX10 ++ wsX00)
def wsX1_leader : List Cond := .code yX1_leader cX1_leader 4 (some .int) :: ([.fieldLink RX1 15 "CoracleRace$Fleet" "size" "I", .fieldLink RX1 11 "CoracleRace$Fleet" "boats" "[LCoracleRace$Boat;", .fieldLink RX1 42 "CoracleRace$Boat" "place" "I", .methodLink RX1 35 yX0_isIn, .instanceMethod yX0_isIn, .selects RX0 yX0_isIn yX0_isIn, .initialized RX0, .code yX0_isIn cX0_isIn 1 (some .boolean), .fieldLink RX0 35 "CoracleRace$Boat" "in" "Z"] ++ wsX10 ++ wsX00)
def wsX1_winner : List Cond := .code yX1_winner cX1_winner 4 (some .int) :: ([.fieldLink RX1 15 "CoracleRace$Fleet" "size" "I", .fieldLink RX1 11 "CoracleRace$Fleet" "boats" "[LCoracleRace$Boat;", .methodLink RX1 35 yX0_isIn, .instanceMethod yX0_isIn, .selects RX0 yX0_isIn yX0_isIn, .initialized RX0, .code yX0_isIn cX0_isIn 1 (some .boolean), .fieldLink RX0 35 "CoracleRace$Boat" "in" "Z", .methodLink RX1 45 yX0_time, .instanceMethod yX0_time, .selects RX0 yX0_time yX0_time, .code yX0_time cX0_time 1 (some .int), .fieldLink RX0 39 "CoracleRace$Boat" "tickIn" "I", .fieldLink RX0 32 "CoracleRace$Boat" "fouls" "I"] ++ wsX10 ++ wsX00)
def wsX1_rankOf : List Cond := .code yX1_rankOf cX1_rankOf 4 (some .int) :: ([.fieldLink RX1 15 "CoracleRace$Fleet" "size" "I", .fieldLink RX1 11 "CoracleRace$Fleet" "boats" "[LCoracleRace$Boat;", .methodLink RX1 49 yX0_isAheadOf, .instanceMethod yX0_isAheadOf, .selects RX0 yX0_isAheadOf yX0_isAheadOf, .initialized RX0, .code yX0_isAheadOf cX0_isAheadOf 2 (some .boolean), .fieldLink RX0 35 "CoracleRace$Boat" "in" "Z", .fieldLink RX0 20 "CoracleRace$Boat" "place" "I", .methodLink RX0 58 yX0_time, .instanceMethod yX0_time, .selects RX0 yX0_time yX0_time, .code yX0_time cX0_time 1 (some .int), .fieldLink RX0 39 "CoracleRace$Boat" "tickIn" "I", .fieldLink RX0 32 "CoracleRace$Boat" "fouls" "I"] ++ wsX10 ++ wsX00)
def wsX2_init : List Cond := .code yX2_init cX2_init 1 none :: ([.methodLink RX2 1 objectInit, .instanceMethod objectInit, .code objectInit ⟨#[0xb1]⟩ 1 none, .arrayClass .int, .fieldLink RX2 7 "CoracleRace$River" "water" "[I", .fieldLink RX2 13 "CoracleRace$River" "places" "[I", .fieldLink RX2 16 "CoracleRace$River" "gaps" "[I", .fieldLink RX2 19 "CoracleRace$River" "weirs" "I"] ++ wsX20)
def wsX2_hasWeirAt : List Cond := .code yX2_hasWeirAt cX2_hasWeirAt 3 (some .boolean) :: ([.fieldLink RX2 19 "CoracleRace$River" "weirs" "I", .fieldLink RX2 13 "CoracleRace$River" "places" "[I"] ++ wsX20)
def wsX2_addWeir : List Cond := .code yX2_addWeir cX2_addWeir 3 none :: ([.fieldLink RX2 19 "CoracleRace$River" "weirs" "I", .fieldLink RX2 13 "CoracleRace$River" "places" "[I", .fieldLink RX2 16 "CoracleRace$River" "gaps" "[I"] ++ wsX20)
def wsX2_firstWeirBeyond : List Cond := .code yX2_firstWeirBeyond cX2_firstWeirBeyond 4 (some .int) :: ([.fieldLink RX2 19 "CoracleRace$River" "weirs" "I", .fieldLink RX2 13 "CoracleRace$River" "places" "[I"] ++ wsX20)
def wsX3_init_r1 : List Cond := [Cond.methodLink RX3 1 objectInit, Cond.instanceMethod objectInit, Cond.code objectInit ⟨#[0xb1]⟩ 1 none, Cond.classLink RX3 7 RX2, Cond.instantiable RX2 4, Cond.initialized RX2, Cond.fieldLink RX3 10 "CoracleRace" "river" "LCoracleRace$River;", Cond.classLink RX3 16 RX1, Cond.instantiable RX1 3, Cond.initialized RX1, Cond.fieldLink RX3 19 "CoracleRace" "fleet" "LCoracleRace$Fleet;", Cond.fieldLink RX3 23 "CoracleRace" "trial" "LCoracleRace$Fleet;", Cond.instanceMethod yX2_init, Cond.code yX2_init cX2_init 1 none, Cond.methodLink RX2 1 objectInit, Cond.arrayClass .int, Cond.fieldLink RX2 7 "CoracleRace$River" "water" "[I", Cond.fieldLink RX2 13 "CoracleRace$River" "places" "[I", Cond.fieldLink RX2 16 "CoracleRace$River" "gaps" "[I", Cond.fieldLink RX2 19 "CoracleRace$River" "weirs" "I", Cond.methodLink RX3 18 yX1_init, Cond.instanceMethod yX1_init, Cond.code yX1_init cX1_init 2 none, Cond.methodLink RX1 1 objectInit]
def wsX3_init_r2 : List Cond := [Cond.classLink RX1 9 RX0, Cond.fieldLink RX1 11 "CoracleRace$Fleet" "boats" "[LCoracleRace$Boat;", Cond.fieldLink RX1 15 "CoracleRace$Fleet" "size" "I", Cond.fieldLink RX1 19 "CoracleRace$Fleet" "tick" "I", Cond.instantiable RX0 12, Cond.initialized RX0, Cond.instanceMethod yX0_init, Cond.code yX0_init cX0_init 1 none, Cond.methodLink RX0 1 objectInit, Cond.fieldLink RX0 9 "CoracleRace$Boat" "strokes" "[I", Cond.fieldLink RX0 13 "CoracleRace$Boat" "length" "I", Cond.fieldLink RX0 17 "CoracleRace$Boat" "strength" "I", Cond.fieldLink RX0 20 "CoracleRace$Boat" "place" "I", Cond.fieldLink RX0 23 "CoracleRace$Boat" "lane" "I", Cond.fieldLink RX0 26 "CoracleRace$Boat" "heading" "I", Cond.fieldLink RX0 29 "CoracleRace$Boat" "soaked" "I", Cond.fieldLink RX0 32 "CoracleRace$Boat" "fouls" "I", Cond.fieldLink RX0 35 "CoracleRace$Boat" "in" "Z", Cond.fieldLink RX0 39 "CoracleRace$Boat" "tickIn" "I", Cond.fieldLink RX0 42 "CoracleRace$Boat" "spins" "I", Cond.fieldLink RX0 45 "CoracleRace$Boat" "stops" "I"]
def wsX3_init : List Cond := .code yX3_init cX3_init 1 none :: ((wsX3_init_r1 ++ wsX3_init_r2) ++ wsX20 ++ wsX30 ++ wsX10 ++ wsX00)
def wsX3_setWater : List Cond := .code yX3_setWater cX3_setWater 4 (some .int) :: ([.classLink RX3 30 "java/lang/IndexOutOfBoundsException", .initialized "java/lang/IndexOutOfBoundsException", .classLink RX3 37 "java/lang/IllegalArgumentException", .initialized "java/lang/IllegalArgumentException", .fieldLink RX3 10 "CoracleRace" "river" "LCoracleRace$River;", .fieldLink RX3 42 "CoracleRace$River" "water" "[I", .methodLink RX3 26 yX2_isLane, .static yX2_isLane, .initialized RX2, .code yX2_isLane cX2_isLane 1 (some .boolean)] ++ wsX30 ++ wsX20 ++ (vx_atS RX3 34 "java/lang/IndexOutOfBoundsException" ["java/lang/RuntimeException", "java/lang/Exception"]).filter goodWord ++ (vx_atS RX3 41 "java/lang/IllegalArgumentException" ["java/lang/RuntimeException", "java/lang/Exception"]).filter goodWord)
def wsX3_weir : List Cond := .code yX3_weir cX3_weir 3 (some .int) :: ([.classLink RX3 37 "java/lang/IllegalArgumentException", .initialized "java/lang/IllegalArgumentException", .classLink RX3 54 "java/lang/IllegalStateException", .initialized "java/lang/IllegalStateException", .fieldLink RX3 10 "CoracleRace" "river" "LCoracleRace$River;", .fieldLink RX3 50 "CoracleRace$River" "weirs" "I", .methodLink RX3 26 yX2_isLane, .static yX2_isLane, .initialized RX2, .code yX2_isLane cX2_isLane 1 (some .boolean), .methodLink RX3 59 yX2_hasWeirAt, .instanceMethod yX2_hasWeirAt, .selects RX2 yX2_hasWeirAt yX2_hasWeirAt, .code yX2_hasWeirAt cX2_hasWeirAt 3 (some .boolean), .fieldLink RX2 19 "CoracleRace$River" "weirs" "I", .fieldLink RX2 13 "CoracleRace$River" "places" "[I", .methodLink RX3 64 yX2_addWeir, .instanceMethod yX2_addWeir, .selects RX2 yX2_addWeir yX2_addWeir, .code yX2_addWeir cX2_addWeir 3 none, .fieldLink RX2 16 "CoracleRace$River" "gaps" "[I"] ++ wsX30 ++ wsX20 ++ (vx_atS RX3 41 "java/lang/IllegalArgumentException" ["java/lang/RuntimeException", "java/lang/Exception"]).filter goodWord ++ (vx_atS RX3 58 "java/lang/IllegalStateException" ["java/lang/RuntimeException", "java/lang/Exception"]).filter goodWord)
def wsX3_launch_r1 : List Cond := [Cond.classLink RX3 37 "java/lang/IllegalArgumentException", Cond.initialized "java/lang/IllegalArgumentException", Cond.classLink RX3 54 "java/lang/IllegalStateException", Cond.initialized "java/lang/IllegalStateException", Cond.fieldLink RX3 19 "CoracleRace" "fleet" "LCoracleRace$Fleet;", Cond.fieldLink RX3 74 "CoracleRace$Fleet" "size" "I", Cond.methodLink RX3 26 yX2_isLane, Cond.static yX2_isLane, Cond.initialized RX2, Cond.code yX2_isLane cX2_isLane 1 (some .boolean), Cond.methodLink RX3 79 yX1_add, Cond.instanceMethod yX1_add, Cond.selects RX1 yX1_add yX1_add, Cond.initialized RX1, Cond.code yX1_add cX1_add 3 (some .int), Cond.fieldLink RX1 15 "CoracleRace$Fleet" "size" "I", Cond.fieldLink RX1 11 "CoracleRace$Fleet" "boats" "[LCoracleRace$Boat;", Cond.methodLink RX1 23 yX0_start, Cond.instanceMethod yX0_start, Cond.selects RX0 yX0_start yX0_start, Cond.initialized RX0, Cond.code yX0_start cX0_start 3 none, Cond.fieldLink RX0 23 "CoracleRace$Boat" "lane" "I", Cond.fieldLink RX0 17 "CoracleRace$Boat" "strength" "I"]
def wsX3_launch_r2 : List Cond := [Cond.methodLink RX0 48 yX0_takePattern, Cond.instanceMethod yX0_takePattern, Cond.selects RX0 yX0_takePattern yX0_takePattern, Cond.code yX0_takePattern cX0_takePattern 5 none, Cond.fieldLink RX0 9 "CoracleRace$Boat" "strokes" "[I", Cond.fieldLink RX0 13 "CoracleRace$Boat" "length" "I"]
def wsX3_launch : List Cond := .code yX3_launch cX3_launch 3 (some .int) :: ((wsX3_launch_r1 ++ wsX3_launch_r2) ++ wsX30 ++ wsX10 ++ wsX00 ++ (vx_atS RX3 41 "java/lang/IllegalArgumentException" ["java/lang/RuntimeException", "java/lang/Exception"]).filter goodWord ++ (vx_atS RX3 58 "java/lang/IllegalStateException" ["java/lang/RuntimeException", "java/lang/Exception"]).filter goodWord)
def wsX3_isPattern : List Cond := .code yX3_isPattern cX3_isPattern 4 (some .boolean) :: ([])
def wsX3_paddle : List Cond := .code yX3_paddle cX3_paddle 5 (some .int) :: ([.classLink RX3 30 "java/lang/IndexOutOfBoundsException", .initialized "java/lang/IndexOutOfBoundsException", .classLink RX3 37 "java/lang/IllegalArgumentException", .initialized "java/lang/IllegalArgumentException", .fieldLink RX3 19 "CoracleRace" "fleet" "LCoracleRace$Fleet;", .fieldLink RX3 96 "CoracleRace$Fleet" "boats" "[LCoracleRace$Boat;", .fieldLink RX3 100 "CoracleRace$Boat" "length" "I", .methodLink RX3 83 yX1_has, .instanceMethod yX1_has, .selects RX1 yX1_has yX1_has, .initialized RX1, .code yX1_has cX1_has 2 (some .boolean), .fieldLink RX1 15 "CoracleRace$Fleet" "size" "I", .methodLink RX3 90 yX3_isPattern, .static yX3_isPattern, .initialized RX3, .code yX3_isPattern cX3_isPattern 4 (some .boolean), .methodLink RX3 103 yX0_takePattern, .instanceMethod yX0_takePattern, .selects RX0 yX0_takePattern yX0_takePattern, .initialized RX0, .code yX0_takePattern cX0_takePattern 5 none, .fieldLink RX0 9 "CoracleRace$Boat" "strokes" "[I", .fieldLink RX0 13 "CoracleRace$Boat" "length" "I"] ++ wsX30 ++ wsX10 ++ wsX00 ++ (vx_atS RX3 34 "java/lang/IndexOutOfBoundsException" ["java/lang/RuntimeException", "java/lang/Exception"]).filter goodWord ++ (vx_atS RX3 41 "java/lang/IllegalArgumentException" ["java/lang/RuntimeException", "java/lang/Exception"]).filter goodWord)
def wsX3_tar : List Cond := .code yX3_tar cX3_tar 2 (some .int) :: ([.classLink RX3 30 "java/lang/IndexOutOfBoundsException", .initialized "java/lang/IndexOutOfBoundsException", .classLink RX3 54 "java/lang/IllegalStateException", .initialized "java/lang/IllegalStateException", .fieldLink RX3 19 "CoracleRace" "fleet" "LCoracleRace$Fleet;", .fieldLink RX3 96 "CoracleRace$Fleet" "boats" "[LCoracleRace$Boat;", .methodLink RX3 83 yX1_has, .instanceMethod yX1_has, .selects RX1 yX1_has yX1_has, .initialized RX1, .code yX1_has cX1_has 2 (some .boolean), .fieldLink RX1 15 "CoracleRace$Fleet" "size" "I", .methodLink RX3 106 yX0_isIn, .instanceMethod yX0_isIn, .selects RX0 yX0_isIn yX0_isIn, .initialized RX0, .code yX0_isIn cX0_isIn 1 (some .boolean), .fieldLink RX0 35 "CoracleRace$Boat" "in" "Z", .methodLink RX3 112 yX0_dryOut, .instanceMethod yX0_dryOut, .selects RX0 yX0_dryOut yX0_dryOut, .code yX0_dryOut cX0_dryOut 2 (some .int), .fieldLink RX0 29 "CoracleRace$Boat" "soaked" "I", .fieldLink RX0 32 "CoracleRace$Boat" "fouls" "I"] ++ wsX30 ++ wsX10 ++ wsX00 ++ (vx_atS RX3 34 "java/lang/IndexOutOfBoundsException" ["java/lang/RuntimeException", "java/lang/Exception"]).filter goodWord ++ (vx_atS RX3 58 "java/lang/IllegalStateException" ["java/lang/RuntimeException", "java/lang/Exception"]).filter goodWord)
def wsX3_boat_r1 : List Cond := [Cond.classLink RX3 30 "java/lang/IndexOutOfBoundsException", Cond.initialized "java/lang/IndexOutOfBoundsException", Cond.fieldLink RX3 19 "CoracleRace" "fleet" "LCoracleRace$Fleet;", Cond.fieldLink RX3 96 "CoracleRace$Fleet" "boats" "[LCoracleRace$Boat;", Cond.methodLink RX3 83 yX1_has, Cond.instanceMethod yX1_has, Cond.selects RX1 yX1_has yX1_has, Cond.initialized RX1, Cond.code yX1_has cX1_has 2 (some .boolean), Cond.fieldLink RX1 15 "CoracleRace$Fleet" "size" "I", Cond.methodLink RX3 118 yX0_fact, Cond.instanceMethod yX0_fact, Cond.selects RX0 yX0_fact yX0_fact, Cond.initialized RX0, Cond.code yX0_fact cX0_fact 2 (some .int), Cond.fieldLink RX0 20 "CoracleRace$Boat" "place" "I", Cond.fieldLink RX0 23 "CoracleRace$Boat" "lane" "I", Cond.fieldLink RX0 26 "CoracleRace$Boat" "heading" "I", Cond.fieldLink RX0 29 "CoracleRace$Boat" "soaked" "I", Cond.fieldLink RX0 32 "CoracleRace$Boat" "fouls" "I", Cond.fieldLink RX0 35 "CoracleRace$Boat" "in" "Z", Cond.fieldLink RX0 42 "CoracleRace$Boat" "spins" "I", Cond.fieldLink RX0 45 "CoracleRace$Boat" "stops" "I", Cond.methodLink RX0 58 yX0_time]
def wsX3_boat_r2 : List Cond := [Cond.instanceMethod yX0_time, Cond.selects RX0 yX0_time yX0_time, Cond.code yX0_time cX0_time 1 (some .int), Cond.fieldLink RX0 39 "CoracleRace$Boat" "tickIn" "I"]
def wsX3_boat : List Cond := .code yX3_boat cX3_boat 3 (some .int) :: ((wsX3_boat_r1 ++ wsX3_boat_r2) ++ wsX30 ++ wsX10 ++ wsX00 ++ (vx_atS RX3 34 "java/lang/IndexOutOfBoundsException" ["java/lang/RuntimeException", "java/lang/Exception"]).filter goodWord)
def wsX3_countIn_r1 : List Cond := [Cond.fieldLink RX3 150 "CoracleRace$Fleet" "tick" "I", Cond.fieldLink RX3 74 "CoracleRace$Fleet" "size" "I", Cond.fieldLink RX3 10 "CoracleRace" "river" "LCoracleRace$River;", Cond.fieldLink RX3 50 "CoracleRace$River" "weirs" "I", Cond.methodLink RX3 139 yX1_boatsIn, Cond.instanceMethod yX1_boatsIn, Cond.selects RX1 yX1_boatsIn yX1_boatsIn, Cond.initialized RX1, Cond.code yX1_boatsIn cX1_boatsIn 3 (some .int), Cond.fieldLink RX1 15 "CoracleRace$Fleet" "size" "I", Cond.fieldLink RX1 11 "CoracleRace$Fleet" "boats" "[LCoracleRace$Boat;", Cond.methodLink RX1 35 yX0_isIn, Cond.instanceMethod yX0_isIn, Cond.selects RX0 yX0_isIn yX0_isIn, Cond.initialized RX0, Cond.code yX0_isIn cX0_isIn 1 (some .boolean), Cond.fieldLink RX0 35 "CoracleRace$Boat" "in" "Z", Cond.methodLink RX3 187 yX1_foulsAdded, Cond.instanceMethod yX1_foulsAdded, Cond.selects RX1 yX1_foulsAdded yX1_foulsAdded, Cond.code yX1_foulsAdded cX1_foulsAdded 3 (some .int), Cond.fieldLink RX1 39 "CoracleRace$Boat" "fouls" "I", Cond.methodLink RX3 190 yX1_leader, Cond.instanceMethod yX1_leader]
def wsX3_countIn_r2 : List Cond := [Cond.selects RX1 yX1_leader yX1_leader, Cond.code yX1_leader cX1_leader 4 (some .int), Cond.fieldLink RX1 42 "CoracleRace$Boat" "place" "I", Cond.methodLink RX3 193 yX1_winner, Cond.instanceMethod yX1_winner, Cond.selects RX1 yX1_winner yX1_winner, Cond.code yX1_winner cX1_winner 4 (some .int), Cond.methodLink RX1 45 yX0_time, Cond.instanceMethod yX0_time, Cond.selects RX0 yX0_time yX0_time, Cond.code yX0_time cX0_time 1 (some .int), Cond.fieldLink RX0 39 "CoracleRace$Boat" "tickIn" "I", Cond.fieldLink RX0 32 "CoracleRace$Boat" "fouls" "I"]
def wsX3_countIn : List Cond := .code yX3_countIn cX3_countIn 3 (some .int) :: ((wsX3_countIn_r1 ++ wsX3_countIn_r2) ++ wsX10 ++ wsX30 ++ wsX20 ++ wsX00)
def wsX3_count_r1 : List Cond := [Cond.classLink RX3 30 "java/lang/IndexOutOfBoundsException", Cond.initialized "java/lang/IndexOutOfBoundsException", Cond.fieldLink RX3 19 "CoracleRace" "fleet" "LCoracleRace$Fleet;", Cond.methodLink RX3 124 yX3_countIn, Cond.instanceMethod yX3_countIn, Cond.selects RX3 yX3_countIn yX3_countIn, Cond.initialized RX3, Cond.code yX3_countIn cX3_countIn 3 (some .int), Cond.fieldLink RX3 150 "CoracleRace$Fleet" "tick" "I", Cond.fieldLink RX3 74 "CoracleRace$Fleet" "size" "I", Cond.fieldLink RX3 10 "CoracleRace" "river" "LCoracleRace$River;", Cond.fieldLink RX3 50 "CoracleRace$River" "weirs" "I", Cond.methodLink RX3 139 yX1_boatsIn, Cond.instanceMethod yX1_boatsIn, Cond.selects RX1 yX1_boatsIn yX1_boatsIn, Cond.initialized RX1, Cond.code yX1_boatsIn cX1_boatsIn 3 (some .int), Cond.fieldLink RX1 15 "CoracleRace$Fleet" "size" "I", Cond.fieldLink RX1 11 "CoracleRace$Fleet" "boats" "[LCoracleRace$Boat;", Cond.methodLink RX1 35 yX0_isIn, Cond.instanceMethod yX0_isIn, Cond.selects RX0 yX0_isIn yX0_isIn, Cond.initialized RX0, Cond.code yX0_isIn cX0_isIn 1 (some .boolean)]
def wsX3_count_r2 : List Cond := [Cond.fieldLink RX0 35 "CoracleRace$Boat" "in" "Z", Cond.methodLink RX3 187 yX1_foulsAdded, Cond.instanceMethod yX1_foulsAdded, Cond.selects RX1 yX1_foulsAdded yX1_foulsAdded, Cond.code yX1_foulsAdded cX1_foulsAdded 3 (some .int), Cond.fieldLink RX1 39 "CoracleRace$Boat" "fouls" "I", Cond.methodLink RX3 190 yX1_leader, Cond.instanceMethod yX1_leader, Cond.selects RX1 yX1_leader yX1_leader, Cond.code yX1_leader cX1_leader 4 (some .int), Cond.fieldLink RX1 42 "CoracleRace$Boat" "place" "I", Cond.methodLink RX3 193 yX1_winner, Cond.instanceMethod yX1_winner, Cond.selects RX1 yX1_winner yX1_winner, Cond.code yX1_winner cX1_winner 4 (some .int), Cond.methodLink RX1 45 yX0_time, Cond.instanceMethod yX0_time, Cond.selects RX0 yX0_time yX0_time, Cond.code yX0_time cX0_time 1 (some .int), Cond.fieldLink RX0 39 "CoracleRace$Boat" "tickIn" "I", Cond.fieldLink RX0 32 "CoracleRace$Boat" "fouls" "I"]
def wsX3_count : List Cond := .code yX3_count cX3_count 2 (some .int) :: ((wsX3_count_r1 ++ wsX3_count_r2) ++ wsX30 ++ wsX10 ++ wsX20 ++ wsX00 ++ (vx_atS RX3 34 "java/lang/IndexOutOfBoundsException" ["java/lang/RuntimeException", "java/lang/Exception"]).filter goodWord)
def wsX3_next : List Cond := .code yX3_next cX3_next 2 (some .int) :: ([.classLink RX3 37 "java/lang/IllegalArgumentException", .initialized "java/lang/IllegalArgumentException", .fieldLink RX3 10 "CoracleRace" "river" "LCoracleRace$River;", .methodLink RX3 130 yX2_firstWeirBeyond, .instanceMethod yX2_firstWeirBeyond, .selects RX2 yX2_firstWeirBeyond yX2_firstWeirBeyond, .initialized RX2, .code yX2_firstWeirBeyond cX2_firstWeirBeyond 4 (some .int), .fieldLink RX2 19 "CoracleRace$River" "weirs" "I", .fieldLink RX2 13 "CoracleRace$River" "places" "[I"] ++ wsX30 ++ wsX20 ++ (vx_atS RX3 41 "java/lang/IllegalArgumentException" ["java/lang/RuntimeException", "java/lang/Exception"]).filter goodWord)
def wsX3_rank_r1 : List Cond := [Cond.classLink RX3 30 "java/lang/IndexOutOfBoundsException", Cond.initialized "java/lang/IndexOutOfBoundsException", Cond.fieldLink RX3 19 "CoracleRace" "fleet" "LCoracleRace$Fleet;", Cond.fieldLink RX3 96 "CoracleRace$Fleet" "boats" "[LCoracleRace$Boat;", Cond.methodLink RX3 83 yX1_has, Cond.instanceMethod yX1_has, Cond.selects RX1 yX1_has yX1_has, Cond.initialized RX1, Cond.code yX1_has cX1_has 2 (some .boolean), Cond.fieldLink RX1 15 "CoracleRace$Fleet" "size" "I", Cond.methodLink RX3 133 yX1_rankOf, Cond.instanceMethod yX1_rankOf, Cond.selects RX1 yX1_rankOf yX1_rankOf, Cond.code yX1_rankOf cX1_rankOf 4 (some .int), Cond.fieldLink RX1 11 "CoracleRace$Fleet" "boats" "[LCoracleRace$Boat;", Cond.methodLink RX1 49 yX0_isAheadOf, Cond.instanceMethod yX0_isAheadOf, Cond.selects RX0 yX0_isAheadOf yX0_isAheadOf, Cond.initialized RX0, Cond.code yX0_isAheadOf cX0_isAheadOf 2 (some .boolean), Cond.fieldLink RX0 35 "CoracleRace$Boat" "in" "Z", Cond.fieldLink RX0 20 "CoracleRace$Boat" "place" "I", Cond.methodLink RX0 58 yX0_time, Cond.instanceMethod yX0_time]
def wsX3_rank_r2 : List Cond := [Cond.selects RX0 yX0_time yX0_time, Cond.code yX0_time cX0_time 1 (some .int), Cond.fieldLink RX0 39 "CoracleRace$Boat" "tickIn" "I", Cond.fieldLink RX0 32 "CoracleRace$Boat" "fouls" "I"]
def wsX3_rank : List Cond := .code yX3_rank cX3_rank 2 (some .int) :: ((wsX3_rank_r1 ++ wsX3_rank_r2) ++ wsX30 ++ wsX10 ++ wsX00 ++ (vx_atS RX3 34 "java/lang/IndexOutOfBoundsException" ["java/lang/RuntimeException", "java/lang/Exception"]).filter goodWord)
def wsX3_go_r1 : List Cond := [Cond.classLink RX3 37 "java/lang/IllegalArgumentException", Cond.initialized "java/lang/IllegalArgumentException", Cond.fieldLink RX3 19 "CoracleRace" "fleet" "LCoracleRace$Fleet;", Cond.fieldLink RX3 10 "CoracleRace" "river" "LCoracleRace$River;", Cond.methodLink RX3 139 yX1_boatsIn, Cond.instanceMethod yX1_boatsIn, Cond.selects RX1 yX1_boatsIn yX1_boatsIn, Cond.initialized RX1, Cond.code yX1_boatsIn cX1_boatsIn 3 (some .int), Cond.fieldLink RX1 15 "CoracleRace$Fleet" "size" "I", Cond.fieldLink RX1 11 "CoracleRace$Fleet" "boats" "[LCoracleRace$Boat;", Cond.methodLink RX1 35 yX0_isIn, Cond.instanceMethod yX0_isIn, Cond.selects RX0 yX0_isIn yX0_isIn, Cond.initialized RX0, Cond.code yX0_isIn cX0_isIn 1 (some .boolean), Cond.fieldLink RX0 35 "CoracleRace$Boat" "in" "Z", Cond.methodLink RX3 142 yX1_letTicksGoBy, Cond.instanceMethod yX1_letTicksGoBy, Cond.selects RX1 yX1_letTicksGoBy yX1_letTicksGoBy, Cond.code yX1_letTicksGoBy cX1_letTicksGoBy 5 none, Cond.fieldLink RX1 19 "CoracleRace$Fleet" "tick" "I", Cond.methodLink RX1 31 yX0_letTickGoBy, Cond.instanceMethod yX0_letTickGoBy]
def wsX3_go_r2 : List Cond := [Cond.selects RX0 yX0_letTickGoBy yX0_letTickGoBy, Cond.code yX0_letTickGoBy cX0_letTickGoBy 4 none, Cond.fieldLink RX0 20 "CoracleRace$Boat" "place" "I", Cond.fieldLink RX0 39 "CoracleRace$Boat" "tickIn" "I", Cond.methodLink RX0 62 yX0_strokeIn, Cond.instanceMethod yX0_strokeIn, Cond.selects RX0 yX0_strokeIn yX0_strokeIn, Cond.code yX0_strokeIn cX0_strokeIn 2 (some .int), Cond.fieldLink RX0 13 "CoracleRace$Boat" "length" "I", Cond.fieldLink RX0 9 "CoracleRace$Boat" "strokes" "[I", Cond.methodLink RX0 82 yJ9_floorMod_7cf53, Cond.static yJ9_floorMod_7cf53, Cond.initialized RJ9, Cond.code yJ9_floorMod_7cf53 cJ9_floorMod_7cf53 3 (some .int), Cond.methodLink RX0 66 yX0_forceOf, Cond.instanceMethod yX0_forceOf, Cond.selects RX0 yX0_forceOf yX0_forceOf, Cond.code yX0_forceOf cX0_forceOf 2 (some .int), Cond.fieldLink RX0 26 "CoracleRace$Boat" "heading" "I", Cond.fieldLink RX0 42 "CoracleRace$Boat" "spins" "I", Cond.fieldLink RX0 29 "CoracleRace$Boat" "soaked" "I", Cond.methodLink RX0 91 Lib.Math.max.name, Cond.static Lib.Math.max.name, Cond.initialized "java/lang/Math"]
def wsX3_go_r3 : List Cond := [Cond.code Lib.Math.max.name Lib.Math.max.code 2 (some .int), Cond.methodLink RX0 88 yX0_pushOf, Cond.instanceMethod yX0_pushOf, Cond.selects RX0 yX0_pushOf yX0_pushOf, Cond.code yX0_pushOf cX0_pushOf 2 (some .int), Cond.fieldLink RX0 17 "CoracleRace$Boat" "strength" "I", Cond.methodLink RX0 69 yX0_drift, Cond.instanceMethod yX0_drift, Cond.selects RX0 yX0_drift yX0_drift, Cond.code yX0_drift cX0_drift 2 none, Cond.fieldLink RX0 23 "CoracleRace$Boat" "lane" "I", Cond.fieldLink RX0 32 "CoracleRace$Boat" "fouls" "I", Cond.methodLink RX0 94 yX2_isLane, Cond.static yX2_isLane, Cond.initialized RX2, Cond.code yX2_isLane cX2_isLane 1 (some .boolean), Cond.methodLink RX0 72 yX0_advance, Cond.instanceMethod yX0_advance, Cond.selects RX0 yX0_advance yX0_advance, Cond.code yX0_advance cX0_advance 5 none, Cond.methodLink RX0 98 Lib.Math.abs.name, Cond.static Lib.Math.abs.name, Cond.code Lib.Math.abs.name Lib.Math.abs.code 1 (some .int), Cond.fieldLink RX0 101 "CoracleRace$River" "water" "[I"]
def wsX3_go_r4 : List Cond := [Cond.methodLink RX0 108 Lib.Math.min.name, Cond.static Lib.Math.min.name, Cond.code Lib.Math.min.name Lib.Math.min.code 2 (some .int), Cond.fieldLink RX0 45 "CoracleRace$Boat" "stops" "I", Cond.methodLink RX0 104 yX2_firstStop, Cond.instanceMethod yX2_firstStop, Cond.selects RX2 yX2_firstStop yX2_firstStop, Cond.code yX2_firstStop cX2_firstStop 7 (some .int), Cond.fieldLink RX2 19 "CoracleRace$River" "weirs" "I", Cond.fieldLink RX2 13 "CoracleRace$River" "places" "[I", Cond.fieldLink RX2 16 "CoracleRace$River" "gaps" "[I", Cond.methodLink RX0 76 yX0_soak, Cond.instanceMethod yX0_soak, Cond.selects RX0 yX0_soak yX0_soak, Cond.code yX0_soak cX0_soak 2 none]
def wsX3_go : List Cond := .code yX3_go cX3_go 3 (some .int) :: ((wsX3_go_r1 ++ (wsX3_go_r2 ++ (wsX3_go_r3 ++ wsX3_go_r4))) ++ wsX30 ++ wsX10 ++ wsX00 ++ wsX20 ++ (vx_atS RX3 41 "java/lang/IllegalArgumentException" ["java/lang/RuntimeException", "java/lang/Exception"]).filter goodWord)
def wsX3_arrives_r1 : List Cond := [Cond.classLink RX3 30 "java/lang/IndexOutOfBoundsException", Cond.initialized "java/lang/IndexOutOfBoundsException", Cond.fieldLink RX3 19 "CoracleRace" "fleet" "LCoracleRace$Fleet;", Cond.fieldLink RX3 23 "CoracleRace" "trial" "LCoracleRace$Fleet;", Cond.fieldLink RX3 96 "CoracleRace$Fleet" "boats" "[LCoracleRace$Boat;", Cond.fieldLink RX3 10 "CoracleRace" "river" "LCoracleRace$River;", Cond.fieldLink RX3 150 "CoracleRace$Fleet" "tick" "I", Cond.methodLink RX3 83 yX1_has, Cond.instanceMethod yX1_has, Cond.selects RX1 yX1_has yX1_has, Cond.initialized RX1, Cond.code yX1_has cX1_has 2 (some .boolean), Cond.fieldLink RX1 15 "CoracleRace$Fleet" "size" "I", Cond.methodLink RX3 146 yX0_copyFrom, Cond.instanceMethod yX0_copyFrom, Cond.selects RX0 yX0_copyFrom yX0_copyFrom, Cond.initialized RX0, Cond.code yX0_copyFrom cX0_copyFrom 2 none, Cond.fieldLink RX0 9 "CoracleRace$Boat" "strokes" "[I", Cond.methodLink RX0 52 arraycopyName, Cond.native arraycopyName, Cond.static arraycopyName, Cond.initialized "java/lang/System", Cond.fieldLink RX0 13 "CoracleRace$Boat" "length" "I"]
def wsX3_arrives_r2 : List Cond := [Cond.fieldLink RX0 17 "CoracleRace$Boat" "strength" "I", Cond.fieldLink RX0 20 "CoracleRace$Boat" "place" "I", Cond.fieldLink RX0 23 "CoracleRace$Boat" "lane" "I", Cond.fieldLink RX0 26 "CoracleRace$Boat" "heading" "I", Cond.fieldLink RX0 29 "CoracleRace$Boat" "soaked" "I", Cond.fieldLink RX0 32 "CoracleRace$Boat" "fouls" "I", Cond.fieldLink RX0 35 "CoracleRace$Boat" "in" "Z", Cond.fieldLink RX0 39 "CoracleRace$Boat" "tickIn" "I", Cond.fieldLink RX0 42 "CoracleRace$Boat" "spins" "I", Cond.fieldLink RX0 45 "CoracleRace$Boat" "stops" "I", Cond.methodLink RX3 106 yX0_isIn, Cond.instanceMethod yX0_isIn, Cond.selects RX0 yX0_isIn yX0_isIn, Cond.code yX0_isIn cX0_isIn 1 (some .boolean), Cond.methodLink RX3 153 yX0_letTickGoBy, Cond.instanceMethod yX0_letTickGoBy, Cond.selects RX0 yX0_letTickGoBy yX0_letTickGoBy, Cond.code yX0_letTickGoBy cX0_letTickGoBy 4 none, Cond.methodLink RX0 62 yX0_strokeIn, Cond.instanceMethod yX0_strokeIn, Cond.selects RX0 yX0_strokeIn yX0_strokeIn, Cond.code yX0_strokeIn cX0_strokeIn 2 (some .int), Cond.methodLink RX0 82 yJ9_floorMod_7cf53, Cond.static yJ9_floorMod_7cf53]
def wsX3_arrives_r3 : List Cond := [Cond.initialized RJ9, Cond.code yJ9_floorMod_7cf53 cJ9_floorMod_7cf53 3 (some .int), Cond.methodLink RX0 66 yX0_forceOf, Cond.instanceMethod yX0_forceOf, Cond.selects RX0 yX0_forceOf yX0_forceOf, Cond.code yX0_forceOf cX0_forceOf 2 (some .int), Cond.methodLink RX0 91 Lib.Math.max.name, Cond.static Lib.Math.max.name, Cond.initialized "java/lang/Math", Cond.code Lib.Math.max.name Lib.Math.max.code 2 (some .int), Cond.methodLink RX0 88 yX0_pushOf, Cond.instanceMethod yX0_pushOf, Cond.selects RX0 yX0_pushOf yX0_pushOf, Cond.code yX0_pushOf cX0_pushOf 2 (some .int), Cond.methodLink RX0 69 yX0_drift, Cond.instanceMethod yX0_drift, Cond.selects RX0 yX0_drift yX0_drift, Cond.code yX0_drift cX0_drift 2 none, Cond.methodLink RX0 94 yX2_isLane, Cond.static yX2_isLane, Cond.initialized RX2, Cond.code yX2_isLane cX2_isLane 1 (some .boolean), Cond.methodLink RX0 72 yX0_advance, Cond.instanceMethod yX0_advance]
def wsX3_arrives_r4 : List Cond := [Cond.selects RX0 yX0_advance yX0_advance, Cond.code yX0_advance cX0_advance 5 none, Cond.methodLink RX0 98 Lib.Math.abs.name, Cond.static Lib.Math.abs.name, Cond.code Lib.Math.abs.name Lib.Math.abs.code 1 (some .int), Cond.fieldLink RX0 101 "CoracleRace$River" "water" "[I", Cond.methodLink RX0 108 Lib.Math.min.name, Cond.static Lib.Math.min.name, Cond.code Lib.Math.min.name Lib.Math.min.code 2 (some .int), Cond.methodLink RX0 104 yX2_firstStop, Cond.instanceMethod yX2_firstStop, Cond.selects RX2 yX2_firstStop yX2_firstStop, Cond.code yX2_firstStop cX2_firstStop 7 (some .int), Cond.fieldLink RX2 19 "CoracleRace$River" "weirs" "I", Cond.fieldLink RX2 13 "CoracleRace$River" "places" "[I", Cond.fieldLink RX2 16 "CoracleRace$River" "gaps" "[I", Cond.methodLink RX0 76 yX0_soak, Cond.instanceMethod yX0_soak, Cond.selects RX0 yX0_soak yX0_soak, Cond.code yX0_soak cX0_soak 2 none]
def wsX3_arrives : List Cond := .code yX3_arrives cX3_arrives 4 (some .int) :: ((wsX3_arrives_r1 ++ (wsX3_arrives_r2 ++ (wsX3_arrives_r3 ++ wsX3_arrives_r4))) ++ wsX30 ++ wsX10 ++ wsX00 ++ wsX20 ++ (vx_atS RX3 34 "java/lang/IndexOutOfBoundsException" ["java/lang/RuntimeException", "java/lang/Exception"]).filter goodWord)
def wsX3_foresee_r1 : List Cond := [Cond.classLink RX3 37 "java/lang/IllegalArgumentException", Cond.initialized "java/lang/IllegalArgumentException", Cond.classLink RX3 30 "java/lang/IndexOutOfBoundsException", Cond.initialized "java/lang/IndexOutOfBoundsException", Cond.fieldLink RX3 23 "CoracleRace" "trial" "LCoracleRace$Fleet;", Cond.fieldLink RX3 19 "CoracleRace" "fleet" "LCoracleRace$Fleet;", Cond.fieldLink RX3 10 "CoracleRace" "river" "LCoracleRace$River;", Cond.methodLink RX3 158 yX1_copyFrom, Cond.instanceMethod yX1_copyFrom, Cond.selects RX1 yX1_copyFrom yX1_copyFrom, Cond.initialized RX1, Cond.code yX1_copyFrom cX1_copyFrom 3 none, Cond.fieldLink RX1 15 "CoracleRace$Fleet" "size" "I", Cond.fieldLink RX1 19 "CoracleRace$Fleet" "tick" "I", Cond.fieldLink RX1 11 "CoracleRace$Fleet" "boats" "[LCoracleRace$Boat;", Cond.methodLink RX1 27 yX0_copyFrom, Cond.instanceMethod yX0_copyFrom, Cond.selects RX0 yX0_copyFrom yX0_copyFrom, Cond.initialized RX0, Cond.code yX0_copyFrom cX0_copyFrom 2 none, Cond.fieldLink RX0 9 "CoracleRace$Boat" "strokes" "[I", Cond.methodLink RX0 52 arraycopyName, Cond.native arraycopyName, Cond.static arraycopyName]
def wsX3_foresee_r2 : List Cond := [Cond.initialized "java/lang/System", Cond.fieldLink RX0 13 "CoracleRace$Boat" "length" "I", Cond.fieldLink RX0 17 "CoracleRace$Boat" "strength" "I", Cond.fieldLink RX0 20 "CoracleRace$Boat" "place" "I", Cond.fieldLink RX0 23 "CoracleRace$Boat" "lane" "I", Cond.fieldLink RX0 26 "CoracleRace$Boat" "heading" "I", Cond.fieldLink RX0 29 "CoracleRace$Boat" "soaked" "I", Cond.fieldLink RX0 32 "CoracleRace$Boat" "fouls" "I", Cond.fieldLink RX0 35 "CoracleRace$Boat" "in" "Z", Cond.fieldLink RX0 39 "CoracleRace$Boat" "tickIn" "I", Cond.fieldLink RX0 42 "CoracleRace$Boat" "spins" "I", Cond.fieldLink RX0 45 "CoracleRace$Boat" "stops" "I", Cond.methodLink RX3 142 yX1_letTicksGoBy, Cond.instanceMethod yX1_letTicksGoBy, Cond.selects RX1 yX1_letTicksGoBy yX1_letTicksGoBy, Cond.code yX1_letTicksGoBy cX1_letTicksGoBy 5 none, Cond.methodLink RX1 31 yX0_letTickGoBy, Cond.instanceMethod yX0_letTickGoBy, Cond.selects RX0 yX0_letTickGoBy yX0_letTickGoBy, Cond.code yX0_letTickGoBy cX0_letTickGoBy 4 none, Cond.methodLink RX0 62 yX0_strokeIn, Cond.instanceMethod yX0_strokeIn, Cond.selects RX0 yX0_strokeIn yX0_strokeIn, Cond.code yX0_strokeIn cX0_strokeIn 2 (some .int)]
def wsX3_foresee_r3 : List Cond := [Cond.methodLink RX0 82 yJ9_floorMod_7cf53, Cond.static yJ9_floorMod_7cf53, Cond.initialized RJ9, Cond.code yJ9_floorMod_7cf53 cJ9_floorMod_7cf53 3 (some .int), Cond.methodLink RX0 66 yX0_forceOf, Cond.instanceMethod yX0_forceOf, Cond.selects RX0 yX0_forceOf yX0_forceOf, Cond.code yX0_forceOf cX0_forceOf 2 (some .int), Cond.methodLink RX0 91 Lib.Math.max.name, Cond.static Lib.Math.max.name, Cond.initialized "java/lang/Math", Cond.code Lib.Math.max.name Lib.Math.max.code 2 (some .int), Cond.methodLink RX0 88 yX0_pushOf, Cond.instanceMethod yX0_pushOf, Cond.selects RX0 yX0_pushOf yX0_pushOf, Cond.code yX0_pushOf cX0_pushOf 2 (some .int), Cond.methodLink RX0 69 yX0_drift, Cond.instanceMethod yX0_drift, Cond.selects RX0 yX0_drift yX0_drift, Cond.code yX0_drift cX0_drift 2 none, Cond.methodLink RX0 94 yX2_isLane, Cond.static yX2_isLane, Cond.initialized RX2, Cond.code yX2_isLane cX2_isLane 1 (some .boolean)]
def wsX3_foresee_r4 : List Cond := [Cond.methodLink RX0 72 yX0_advance, Cond.instanceMethod yX0_advance, Cond.selects RX0 yX0_advance yX0_advance, Cond.code yX0_advance cX0_advance 5 none, Cond.methodLink RX0 98 Lib.Math.abs.name, Cond.static Lib.Math.abs.name, Cond.code Lib.Math.abs.name Lib.Math.abs.code 1 (some .int), Cond.fieldLink RX0 101 "CoracleRace$River" "water" "[I", Cond.methodLink RX0 108 Lib.Math.min.name, Cond.static Lib.Math.min.name, Cond.code Lib.Math.min.name Lib.Math.min.code 2 (some .int), Cond.methodLink RX0 104 yX2_firstStop, Cond.instanceMethod yX2_firstStop, Cond.selects RX2 yX2_firstStop yX2_firstStop, Cond.code yX2_firstStop cX2_firstStop 7 (some .int), Cond.fieldLink RX2 19 "CoracleRace$River" "weirs" "I", Cond.fieldLink RX2 13 "CoracleRace$River" "places" "[I", Cond.fieldLink RX2 16 "CoracleRace$River" "gaps" "[I", Cond.methodLink RX0 76 yX0_soak, Cond.instanceMethod yX0_soak, Cond.selects RX0 yX0_soak yX0_soak, Cond.code yX0_soak cX0_soak 2 none, Cond.methodLink RX3 124 yX3_countIn, Cond.instanceMethod yX3_countIn]
def wsX3_foresee_r5 : List Cond := [Cond.selects RX3 yX3_countIn yX3_countIn, Cond.initialized RX3, Cond.code yX3_countIn cX3_countIn 3 (some .int), Cond.fieldLink RX3 150 "CoracleRace$Fleet" "tick" "I", Cond.fieldLink RX3 74 "CoracleRace$Fleet" "size" "I", Cond.fieldLink RX3 50 "CoracleRace$River" "weirs" "I", Cond.methodLink RX3 139 yX1_boatsIn, Cond.instanceMethod yX1_boatsIn, Cond.selects RX1 yX1_boatsIn yX1_boatsIn, Cond.code yX1_boatsIn cX1_boatsIn 3 (some .int), Cond.methodLink RX1 35 yX0_isIn, Cond.instanceMethod yX0_isIn, Cond.selects RX0 yX0_isIn yX0_isIn, Cond.code yX0_isIn cX0_isIn 1 (some .boolean), Cond.methodLink RX3 187 yX1_foulsAdded, Cond.instanceMethod yX1_foulsAdded, Cond.selects RX1 yX1_foulsAdded yX1_foulsAdded, Cond.code yX1_foulsAdded cX1_foulsAdded 3 (some .int), Cond.fieldLink RX1 39 "CoracleRace$Boat" "fouls" "I", Cond.methodLink RX3 190 yX1_leader, Cond.instanceMethod yX1_leader, Cond.selects RX1 yX1_leader yX1_leader, Cond.code yX1_leader cX1_leader 4 (some .int), Cond.fieldLink RX1 42 "CoracleRace$Boat" "place" "I"]
def wsX3_foresee_r6 : List Cond := [Cond.methodLink RX3 193 yX1_winner, Cond.instanceMethod yX1_winner, Cond.selects RX1 yX1_winner yX1_winner, Cond.code yX1_winner cX1_winner 4 (some .int), Cond.methodLink RX1 45 yX0_time, Cond.instanceMethod yX0_time, Cond.selects RX0 yX0_time yX0_time, Cond.code yX0_time cX0_time 1 (some .int)]
def wsX3_foresee : List Cond := .code yX3_foresee cX3_foresee 3 (some .int) :: ((wsX3_foresee_r1 ++ (wsX3_foresee_r2 ++ (wsX3_foresee_r3 ++ (wsX3_foresee_r4 ++ (wsX3_foresee_r5 ++ wsX3_foresee_r6))))) ++ wsX30 ++ wsX10 ++ wsX00 ++ wsX20 ++ (vx_atS RX3 41 "java/lang/IllegalArgumentException" ["java/lang/RuntimeException", "java/lang/Exception"]).filter goodWord ++ (vx_atS RX3 34 "java/lang/IndexOutOfBoundsException" ["java/lang/RuntimeException", "java/lang/Exception"]).filter goodWord)
def wsX3_placeWith_r1 : List Cond := [Cond.fieldLink RX3 23 "CoracleRace" "trial" "LCoracleRace$Fleet;", Cond.fieldLink RX3 96 "CoracleRace$Fleet" "boats" "[LCoracleRace$Boat;", Cond.fieldLink RX3 19 "CoracleRace" "fleet" "LCoracleRace$Fleet;", Cond.fieldLink RX3 10 "CoracleRace" "river" "LCoracleRace$River;", Cond.fieldLink RX3 150 "CoracleRace$Fleet" "tick" "I", Cond.fieldLink RX3 196 "CoracleRace$Boat" "place" "I", Cond.methodLink RX3 146 yX0_copyFrom, Cond.instanceMethod yX0_copyFrom, Cond.selects RX0 yX0_copyFrom yX0_copyFrom, Cond.initialized RX0, Cond.code yX0_copyFrom cX0_copyFrom 2 none, Cond.fieldLink RX0 9 "CoracleRace$Boat" "strokes" "[I", Cond.methodLink RX0 52 arraycopyName, Cond.native arraycopyName, Cond.static arraycopyName, Cond.initialized "java/lang/System", Cond.fieldLink RX0 13 "CoracleRace$Boat" "length" "I", Cond.fieldLink RX0 17 "CoracleRace$Boat" "strength" "I", Cond.fieldLink RX0 20 "CoracleRace$Boat" "place" "I", Cond.fieldLink RX0 23 "CoracleRace$Boat" "lane" "I", Cond.fieldLink RX0 26 "CoracleRace$Boat" "heading" "I", Cond.fieldLink RX0 29 "CoracleRace$Boat" "soaked" "I", Cond.fieldLink RX0 32 "CoracleRace$Boat" "fouls" "I", Cond.fieldLink RX0 35 "CoracleRace$Boat" "in" "Z"]
def wsX3_placeWith_r2 : List Cond := [Cond.fieldLink RX0 39 "CoracleRace$Boat" "tickIn" "I", Cond.fieldLink RX0 42 "CoracleRace$Boat" "spins" "I", Cond.fieldLink RX0 45 "CoracleRace$Boat" "stops" "I", Cond.methodLink RX3 103 yX0_takePattern, Cond.instanceMethod yX0_takePattern, Cond.selects RX0 yX0_takePattern yX0_takePattern, Cond.code yX0_takePattern cX0_takePattern 5 none, Cond.methodLink RX3 153 yX0_letTickGoBy, Cond.instanceMethod yX0_letTickGoBy, Cond.selects RX0 yX0_letTickGoBy yX0_letTickGoBy, Cond.code yX0_letTickGoBy cX0_letTickGoBy 4 none, Cond.methodLink RX0 62 yX0_strokeIn, Cond.instanceMethod yX0_strokeIn, Cond.selects RX0 yX0_strokeIn yX0_strokeIn, Cond.code yX0_strokeIn cX0_strokeIn 2 (some .int), Cond.methodLink RX0 82 yJ9_floorMod_7cf53, Cond.static yJ9_floorMod_7cf53, Cond.initialized RJ9, Cond.code yJ9_floorMod_7cf53 cJ9_floorMod_7cf53 3 (some .int), Cond.methodLink RX0 66 yX0_forceOf, Cond.instanceMethod yX0_forceOf, Cond.selects RX0 yX0_forceOf yX0_forceOf, Cond.code yX0_forceOf cX0_forceOf 2 (some .int), Cond.methodLink RX0 91 Lib.Math.max.name]
def wsX3_placeWith_r3 : List Cond := [Cond.static Lib.Math.max.name, Cond.initialized "java/lang/Math", Cond.code Lib.Math.max.name Lib.Math.max.code 2 (some .int), Cond.methodLink RX0 88 yX0_pushOf, Cond.instanceMethod yX0_pushOf, Cond.selects RX0 yX0_pushOf yX0_pushOf, Cond.code yX0_pushOf cX0_pushOf 2 (some .int), Cond.methodLink RX0 69 yX0_drift, Cond.instanceMethod yX0_drift, Cond.selects RX0 yX0_drift yX0_drift, Cond.code yX0_drift cX0_drift 2 none, Cond.methodLink RX0 94 yX2_isLane, Cond.static yX2_isLane, Cond.initialized RX2, Cond.code yX2_isLane cX2_isLane 1 (some .boolean), Cond.methodLink RX0 72 yX0_advance, Cond.instanceMethod yX0_advance, Cond.selects RX0 yX0_advance yX0_advance, Cond.code yX0_advance cX0_advance 5 none, Cond.methodLink RX0 98 Lib.Math.abs.name, Cond.static Lib.Math.abs.name, Cond.code Lib.Math.abs.name Lib.Math.abs.code 1 (some .int), Cond.fieldLink RX0 101 "CoracleRace$River" "water" "[I", Cond.methodLink RX0 108 Lib.Math.min.name]
def wsX3_placeWith_r4 : List Cond := [Cond.static Lib.Math.min.name, Cond.code Lib.Math.min.name Lib.Math.min.code 2 (some .int), Cond.methodLink RX0 104 yX2_firstStop, Cond.instanceMethod yX2_firstStop, Cond.selects RX2 yX2_firstStop yX2_firstStop, Cond.code yX2_firstStop cX2_firstStop 7 (some .int), Cond.fieldLink RX2 19 "CoracleRace$River" "weirs" "I", Cond.fieldLink RX2 13 "CoracleRace$River" "places" "[I", Cond.fieldLink RX2 16 "CoracleRace$River" "gaps" "[I", Cond.methodLink RX0 76 yX0_soak, Cond.instanceMethod yX0_soak, Cond.selects RX0 yX0_soak yX0_soak, Cond.code yX0_soak cX0_soak 2 none]
def wsX3_placeWith : List Cond := .code yX3_placeWith cX3_placeWith 6 (some .int) :: ((wsX3_placeWith_r1 ++ (wsX3_placeWith_r2 ++ (wsX3_placeWith_r3 ++ wsX3_placeWith_r4))) ++ wsX30 ++ wsX10 ++ wsX00 ++ wsX20)
def wsX3_advise_r1 : List Cond := [Cond.classLink RX3 30 "java/lang/IndexOutOfBoundsException", Cond.initialized "java/lang/IndexOutOfBoundsException", Cond.classLink RX3 37 "java/lang/IllegalArgumentException", Cond.initialized "java/lang/IllegalArgumentException", Cond.fieldLink RX3 19 "CoracleRace" "fleet" "LCoracleRace$Fleet;", Cond.methodLink RX3 83 yX1_has, Cond.instanceMethod yX1_has, Cond.selects RX1 yX1_has yX1_has, Cond.initialized RX1, Cond.code yX1_has cX1_has 2 (some .boolean), Cond.fieldLink RX1 15 "CoracleRace$Fleet" "size" "I", Cond.methodLink RX3 163 yX3_placeWith, Cond.instanceMethod yX3_placeWith, Cond.selects RX3 yX3_placeWith yX3_placeWith, Cond.initialized RX3, Cond.code yX3_placeWith cX3_placeWith 6 (some .int), Cond.fieldLink RX3 23 "CoracleRace" "trial" "LCoracleRace$Fleet;", Cond.fieldLink RX3 96 "CoracleRace$Fleet" "boats" "[LCoracleRace$Boat;", Cond.fieldLink RX3 10 "CoracleRace" "river" "LCoracleRace$River;", Cond.fieldLink RX3 150 "CoracleRace$Fleet" "tick" "I", Cond.fieldLink RX3 196 "CoracleRace$Boat" "place" "I", Cond.methodLink RX3 146 yX0_copyFrom, Cond.instanceMethod yX0_copyFrom, Cond.selects RX0 yX0_copyFrom yX0_copyFrom]
def wsX3_advise_r2 : List Cond := [Cond.initialized RX0, Cond.code yX0_copyFrom cX0_copyFrom 2 none, Cond.fieldLink RX0 9 "CoracleRace$Boat" "strokes" "[I", Cond.methodLink RX0 52 arraycopyName, Cond.native arraycopyName, Cond.static arraycopyName, Cond.initialized "java/lang/System", Cond.fieldLink RX0 13 "CoracleRace$Boat" "length" "I", Cond.fieldLink RX0 17 "CoracleRace$Boat" "strength" "I", Cond.fieldLink RX0 20 "CoracleRace$Boat" "place" "I", Cond.fieldLink RX0 23 "CoracleRace$Boat" "lane" "I", Cond.fieldLink RX0 26 "CoracleRace$Boat" "heading" "I", Cond.fieldLink RX0 29 "CoracleRace$Boat" "soaked" "I", Cond.fieldLink RX0 32 "CoracleRace$Boat" "fouls" "I", Cond.fieldLink RX0 35 "CoracleRace$Boat" "in" "Z", Cond.fieldLink RX0 39 "CoracleRace$Boat" "tickIn" "I", Cond.fieldLink RX0 42 "CoracleRace$Boat" "spins" "I", Cond.fieldLink RX0 45 "CoracleRace$Boat" "stops" "I", Cond.methodLink RX3 103 yX0_takePattern, Cond.instanceMethod yX0_takePattern, Cond.selects RX0 yX0_takePattern yX0_takePattern, Cond.code yX0_takePattern cX0_takePattern 5 none, Cond.methodLink RX3 153 yX0_letTickGoBy, Cond.instanceMethod yX0_letTickGoBy]
def wsX3_advise_r3 : List Cond := [Cond.selects RX0 yX0_letTickGoBy yX0_letTickGoBy, Cond.code yX0_letTickGoBy cX0_letTickGoBy 4 none, Cond.methodLink RX0 62 yX0_strokeIn, Cond.instanceMethod yX0_strokeIn, Cond.selects RX0 yX0_strokeIn yX0_strokeIn, Cond.code yX0_strokeIn cX0_strokeIn 2 (some .int), Cond.methodLink RX0 82 yJ9_floorMod_7cf53, Cond.static yJ9_floorMod_7cf53, Cond.initialized RJ9, Cond.code yJ9_floorMod_7cf53 cJ9_floorMod_7cf53 3 (some .int), Cond.methodLink RX0 66 yX0_forceOf, Cond.instanceMethod yX0_forceOf, Cond.selects RX0 yX0_forceOf yX0_forceOf, Cond.code yX0_forceOf cX0_forceOf 2 (some .int), Cond.methodLink RX0 91 Lib.Math.max.name, Cond.static Lib.Math.max.name, Cond.initialized "java/lang/Math", Cond.code Lib.Math.max.name Lib.Math.max.code 2 (some .int), Cond.methodLink RX0 88 yX0_pushOf, Cond.instanceMethod yX0_pushOf, Cond.selects RX0 yX0_pushOf yX0_pushOf, Cond.code yX0_pushOf cX0_pushOf 2 (some .int), Cond.methodLink RX0 69 yX0_drift, Cond.instanceMethod yX0_drift]
def wsX3_advise_r4 : List Cond := [Cond.selects RX0 yX0_drift yX0_drift, Cond.code yX0_drift cX0_drift 2 none, Cond.methodLink RX0 94 yX2_isLane, Cond.static yX2_isLane, Cond.initialized RX2, Cond.code yX2_isLane cX2_isLane 1 (some .boolean), Cond.methodLink RX0 72 yX0_advance, Cond.instanceMethod yX0_advance, Cond.selects RX0 yX0_advance yX0_advance, Cond.code yX0_advance cX0_advance 5 none, Cond.methodLink RX0 98 Lib.Math.abs.name, Cond.static Lib.Math.abs.name, Cond.code Lib.Math.abs.name Lib.Math.abs.code 1 (some .int), Cond.fieldLink RX0 101 "CoracleRace$River" "water" "[I", Cond.methodLink RX0 108 Lib.Math.min.name, Cond.static Lib.Math.min.name, Cond.code Lib.Math.min.name Lib.Math.min.code 2 (some .int), Cond.methodLink RX0 104 yX2_firstStop, Cond.instanceMethod yX2_firstStop, Cond.selects RX2 yX2_firstStop yX2_firstStop, Cond.code yX2_firstStop cX2_firstStop 7 (some .int), Cond.fieldLink RX2 19 "CoracleRace$River" "weirs" "I", Cond.fieldLink RX2 13 "CoracleRace$River" "places" "[I", Cond.fieldLink RX2 16 "CoracleRace$River" "gaps" "[I"]
def wsX3_advise_r5 : List Cond := [Cond.methodLink RX0 76 yX0_soak, Cond.instanceMethod yX0_soak, Cond.selects RX0 yX0_soak yX0_soak, Cond.code yX0_soak cX0_soak 2 none]
def wsX3_advise : List Cond := .code yX3_advise cX3_advise 9 (some .int) :: ((wsX3_advise_r1 ++ (wsX3_advise_r2 ++ (wsX3_advise_r3 ++ (wsX3_advise_r4 ++ wsX3_advise_r5)))) ++ wsX30 ++ wsX10 ++ wsX00 ++ wsX20 ++ (vx_atS RX3 34 "java/lang/IndexOutOfBoundsException" ["java/lang/RuntimeException", "java/lang/Exception"]).filter goodWord ++ (vx_atS RX3 41 "java/lang/IllegalArgumentException" ["java/lang/RuntimeException", "java/lang/Exception"]).filter goodWord)
def wsX3_mean : List Cond := .code yX3_mean cX3_mean 1 (some .double) :: ([.fieldLink RX3 19 "CoracleRace" "fleet" "LCoracleRace$Fleet;", .fieldLink RX3 74 "CoracleRace$Fleet" "size" "I", .methodLink RX3 167 yX1_placesAdded, .instanceMethod yX1_placesAdded, .selects RX1 yX1_placesAdded yX1_placesAdded, .initialized RX1, .code yX1_placesAdded cX1_placesAdded 3 (some .int), .fieldLink RX1 15 "CoracleRace$Fleet" "size" "I", .fieldLink RX1 11 "CoracleRace$Fleet" "boats" "[LCoracleRace$Boat;", .fieldLink RX1 42 "CoracleRace$Boat" "place" "I"] ++ wsX30 ++ wsX10 ++ wsX00)
def wsX3_digestWith_r1 : List Cond := [Cond.constantLong RX3 172 (31), Cond.fieldLink RX3 100 "CoracleRace$Boat" "length" "I", Cond.fieldLink RX3 184 "CoracleRace$Boat" "strokes" "[I", Cond.fieldLink RX3 19 "CoracleRace" "fleet" "LCoracleRace$Fleet;", Cond.methodLink RX3 118 yX0_fact, Cond.instanceMethod yX0_fact, Cond.selects RX0 yX0_fact yX0_fact, Cond.initialized RX0, Cond.code yX0_fact cX0_fact 2 (some .int), Cond.fieldLink RX0 20 "CoracleRace$Boat" "place" "I", Cond.fieldLink RX0 23 "CoracleRace$Boat" "lane" "I", Cond.fieldLink RX0 26 "CoracleRace$Boat" "heading" "I", Cond.fieldLink RX0 29 "CoracleRace$Boat" "soaked" "I", Cond.fieldLink RX0 32 "CoracleRace$Boat" "fouls" "I", Cond.fieldLink RX0 35 "CoracleRace$Boat" "in" "Z", Cond.fieldLink RX0 42 "CoracleRace$Boat" "spins" "I", Cond.fieldLink RX0 45 "CoracleRace$Boat" "stops" "I", Cond.methodLink RX0 58 yX0_time, Cond.instanceMethod yX0_time, Cond.selects RX0 yX0_time yX0_time, Cond.code yX0_time cX0_time 1 (some .int), Cond.fieldLink RX0 39 "CoracleRace$Boat" "tickIn" "I", Cond.methodLink RX3 133 yX1_rankOf, Cond.instanceMethod yX1_rankOf]
def wsX3_digestWith_r2 : List Cond := [Cond.selects RX1 yX1_rankOf yX1_rankOf, Cond.initialized RX1, Cond.code yX1_rankOf cX1_rankOf 4 (some .int), Cond.fieldLink RX1 15 "CoracleRace$Fleet" "size" "I", Cond.fieldLink RX1 11 "CoracleRace$Fleet" "boats" "[LCoracleRace$Boat;", Cond.methodLink RX1 49 yX0_isAheadOf, Cond.instanceMethod yX0_isAheadOf, Cond.selects RX0 yX0_isAheadOf yX0_isAheadOf, Cond.code yX0_isAheadOf cX0_isAheadOf 2 (some .boolean)]
def wsX3_digestWith : List Cond := .code yX3_digestWith cX3_digestWith 7 (some .long) :: ((wsX3_digestWith_r1 ++ wsX3_digestWith_r2) ++ wsX00 ++ wsX30 ++ wsX10)
def wsX3_digest_r1 : List Cond := [Cond.constantLong RX3 170 (1163), Cond.constantLong RX3 172 (31), Cond.fieldLink RX3 19 "CoracleRace" "fleet" "LCoracleRace$Fleet;", Cond.fieldLink RX3 10 "CoracleRace" "river" "LCoracleRace$River;", Cond.fieldLink RX3 42 "CoracleRace$River" "water" "[I", Cond.fieldLink RX3 50 "CoracleRace$River" "weirs" "I", Cond.fieldLink RX3 174 "CoracleRace$River" "places" "[I", Cond.fieldLink RX3 177 "CoracleRace$River" "gaps" "[I", Cond.fieldLink RX3 74 "CoracleRace$Fleet" "size" "I", Cond.fieldLink RX3 96 "CoracleRace$Fleet" "boats" "[LCoracleRace$Boat;", Cond.methodLink RX3 124 yX3_countIn, Cond.instanceMethod yX3_countIn, Cond.selects RX3 yX3_countIn yX3_countIn, Cond.initialized RX3, Cond.code yX3_countIn cX3_countIn 3 (some .int), Cond.fieldLink RX3 150 "CoracleRace$Fleet" "tick" "I", Cond.methodLink RX3 139 yX1_boatsIn, Cond.instanceMethod yX1_boatsIn, Cond.selects RX1 yX1_boatsIn yX1_boatsIn, Cond.initialized RX1, Cond.code yX1_boatsIn cX1_boatsIn 3 (some .int), Cond.fieldLink RX1 15 "CoracleRace$Fleet" "size" "I", Cond.fieldLink RX1 11 "CoracleRace$Fleet" "boats" "[LCoracleRace$Boat;", Cond.methodLink RX1 35 yX0_isIn]
def wsX3_digest_r2 : List Cond := [Cond.instanceMethod yX0_isIn, Cond.selects RX0 yX0_isIn yX0_isIn, Cond.initialized RX0, Cond.code yX0_isIn cX0_isIn 1 (some .boolean), Cond.fieldLink RX0 35 "CoracleRace$Boat" "in" "Z", Cond.methodLink RX3 187 yX1_foulsAdded, Cond.instanceMethod yX1_foulsAdded, Cond.selects RX1 yX1_foulsAdded yX1_foulsAdded, Cond.code yX1_foulsAdded cX1_foulsAdded 3 (some .int), Cond.fieldLink RX1 39 "CoracleRace$Boat" "fouls" "I", Cond.methodLink RX3 190 yX1_leader, Cond.instanceMethod yX1_leader, Cond.selects RX1 yX1_leader yX1_leader, Cond.code yX1_leader cX1_leader 4 (some .int), Cond.fieldLink RX1 42 "CoracleRace$Boat" "place" "I", Cond.methodLink RX3 193 yX1_winner, Cond.instanceMethod yX1_winner, Cond.selects RX1 yX1_winner yX1_winner, Cond.code yX1_winner cX1_winner 4 (some .int), Cond.methodLink RX1 45 yX0_time, Cond.instanceMethod yX0_time, Cond.selects RX0 yX0_time yX0_time, Cond.code yX0_time cX0_time 1 (some .int), Cond.fieldLink RX0 39 "CoracleRace$Boat" "tickIn" "I"]
def wsX3_digest_r3 : List Cond := [Cond.fieldLink RX0 32 "CoracleRace$Boat" "fouls" "I", Cond.methodLink RX3 180 yX3_digestWith, Cond.instanceMethod yX3_digestWith, Cond.selects RX3 yX3_digestWith yX3_digestWith, Cond.code yX3_digestWith cX3_digestWith 7 (some .long), Cond.fieldLink RX3 100 "CoracleRace$Boat" "length" "I", Cond.fieldLink RX3 184 "CoracleRace$Boat" "strokes" "[I", Cond.methodLink RX3 118 yX0_fact, Cond.instanceMethod yX0_fact, Cond.selects RX0 yX0_fact yX0_fact, Cond.code yX0_fact cX0_fact 2 (some .int), Cond.fieldLink RX0 20 "CoracleRace$Boat" "place" "I", Cond.fieldLink RX0 23 "CoracleRace$Boat" "lane" "I", Cond.fieldLink RX0 26 "CoracleRace$Boat" "heading" "I", Cond.fieldLink RX0 29 "CoracleRace$Boat" "soaked" "I", Cond.fieldLink RX0 42 "CoracleRace$Boat" "spins" "I", Cond.fieldLink RX0 45 "CoracleRace$Boat" "stops" "I", Cond.methodLink RX0 58 yX0_time, Cond.methodLink RX3 133 yX1_rankOf, Cond.instanceMethod yX1_rankOf, Cond.selects RX1 yX1_rankOf yX1_rankOf, Cond.code yX1_rankOf cX1_rankOf 4 (some .int), Cond.methodLink RX1 49 yX0_isAheadOf, Cond.instanceMethod yX0_isAheadOf]
def wsX3_digest_r4 : List Cond := [Cond.selects RX0 yX0_isAheadOf yX0_isAheadOf, Cond.code yX0_isAheadOf cX0_isAheadOf 2 (some .boolean)]
def wsX3_digest : List Cond := .code yX3_digest cX3_digest 4 (some .long) :: ((wsX3_digest_r1 ++ (wsX3_digest_r2 ++ (wsX3_digest_r3 ++ wsX3_digest_r4))) ++ wsX30 ++ wsX20 ++ wsX10 ++ wsX00)
def wsX4_init : List Cond := .code yX4_init cX4_init 2 none :: ([.fieldLink RX4 3 "CoracleRaceModel$State" "this$0" "LCoracleRaceModel;", .methodLink RX4 9 objectInit, .instanceMethod objectInit, .code objectInit ⟨#[0xb1]⟩ 1 none, .arrayClass .int, .fieldLink RX4 15 "CoracleRaceModel$State" "place" "[I", .fieldLink RX4 19 "CoracleRaceModel$State" "lane" "[I", .fieldLink RX4 22 "CoracleRaceModel$State" "heads" "[I", .fieldLink RX4 25 "CoracleRaceModel$State" "soaked" "[I", .fieldLink RX4 28 "CoracleRaceModel$State" "fouls" "[I", .fieldLink RX4 31 "CoracleRaceModel$State" "came" "[I", .fieldLink RX4 34 "CoracleRaceModel$State" "spins" "[I", .fieldLink RX4 37 "CoracleRaceModel$State" "stops" "[I", .fieldLink RX4 40 "CoracleRaceModel$State" "length" "[I", .fieldLink RX4 43 "CoracleRaceModel$State" "strokes" "[I"] ++ wsX40)
def wsX4_copy : List Cond := .code yX4_copy cX4_copy 3 none :: ([.methodLink RX4 46 arraycopyName, .native arraycopyName, .static arraycopyName, .initialized "java/lang/System"])
def wsX4_become : List Cond := .code yX4_become cX4_become 2 none :: ([.fieldLink RX4 52 "CoracleRaceModel$State" "tick" "I", .fieldLink RX4 15 "CoracleRaceModel$State" "place" "[I", .fieldLink RX4 19 "CoracleRaceModel$State" "lane" "[I", .fieldLink RX4 22 "CoracleRaceModel$State" "heads" "[I", .fieldLink RX4 25 "CoracleRaceModel$State" "soaked" "[I", .fieldLink RX4 28 "CoracleRaceModel$State" "fouls" "[I", .fieldLink RX4 31 "CoracleRaceModel$State" "came" "[I", .fieldLink RX4 34 "CoracleRaceModel$State" "spins" "[I", .fieldLink RX4 37 "CoracleRaceModel$State" "stops" "[I", .fieldLink RX4 40 "CoracleRaceModel$State" "length" "[I", .fieldLink RX4 43 "CoracleRaceModel$State" "strokes" "[I", .methodLink RX4 56 yX4_copy, .instanceMethod yX4_copy, .selects RX4 yX4_copy yX4_copy, .initialized RX4, .code yX4_copy cX4_copy 3 none, .methodLink RX4 46 arraycopyName, .native arraycopyName, .static arraycopyName, .initialized "java/lang/System"] ++ wsX40)
def wsX4_isIn : List Cond := .code yX4_isIn cX4_isIn 2 (some .boolean) :: ([.fieldLink RX4 31 "CoracleRaceModel$State" "came" "[I"] ++ wsX40)
def wsX4_time : List Cond := .code yX4_time cX4_time 2 (some .int) :: ([.fieldLink RX4 31 "CoracleRaceModel$State" "came" "[I", .fieldLink RX4 28 "CoracleRaceModel$State" "fouls" "[I", .methodLink RX4 60 yX4_isIn, .instanceMethod yX4_isIn, .selects RX4 yX4_isIn yX4_isIn, .initialized RX4, .code yX4_isIn cX4_isIn 2 (some .boolean)] ++ wsX40)
def wsX4_stroke : List Cond := .code yX4_stroke cX4_stroke 3 (some .int) :: ([.fieldLink RX4 43 "CoracleRaceModel$State" "strokes" "[I", .fieldLink RX4 40 "CoracleRaceModel$State" "length" "[I"] ++ wsX40)
def wsX4_soak : List Cond := .code yX4_soak cX4_soak 3 none :: ([.fieldLink RX4 25 "CoracleRaceModel$State" "soaked" "[I", .methodLink RX4 67 Lib.Math.min.name, .static Lib.Math.min.name, .initialized "java/lang/Math", .code Lib.Math.min.name Lib.Math.min.code 2 (some .int)] ++ wsX40)
def wsX4_paddles : List Cond := .code yX4_paddles cX4_paddles 4 (some .int) :: ([.fieldLink RX4 52 "CoracleRaceModel$State" "tick" "I", .fieldLink RX4 40 "CoracleRaceModel$State" "length" "[I", .fieldLink RX4 22 "CoracleRaceModel$State" "heads" "[I", .methodLink RX4 76 Lib.Math.abs.name, .static Lib.Math.abs.name, .initialized "java/lang/Math", .code Lib.Math.abs.name Lib.Math.abs.code 1 (some .int), .fieldLink RX4 34 "CoracleRaceModel$State" "spins" "[I", .fieldLink RX4 3 "CoracleRaceModel$State" "this$0" "LCoracleRaceModel;", .fieldLink RX4 25 "CoracleRaceModel$State" "soaked" "[I", .methodLink RX4 83 Lib.Math.max.name, .static Lib.Math.max.name, .code Lib.Math.max.name Lib.Math.max.code 2 (some .int), .methodLink RX4 73 yX4_stroke, .instanceMethod yX4_stroke, .selects RX4 yX4_stroke yX4_stroke, .initialized RX4, .code yX4_stroke cX4_stroke 3 (some .int), .fieldLink RX4 43 "CoracleRaceModel$State" "strokes" "[I"] ++ wsX40 ++ wsX50)
def wsX4_drift : List Cond := .code yX4_drift cX4_drift 3 none :: ([.fieldLink RX4 19 "CoracleRaceModel$State" "lane" "[I", .fieldLink RX4 22 "CoracleRaceModel$State" "heads" "[I", .fieldLink RX4 28 "CoracleRaceModel$State" "fouls" "[I"] ++ wsX40)
def wsX4_stopsAt : List Cond := .code yX4_stopsAt cX4_stopsAt 5 (some .int) :: ([.fieldLink RX4 3 "CoracleRaceModel$State" "this$0" "LCoracleRaceModel;", .fieldLink RX4 15 "CoracleRaceModel$State" "place" "[I", .fieldLink RX4 19 "CoracleRaceModel$State" "lane" "[I"] ++ wsX40 ++ wsX50)
def wsX4_go_r1 : List Cond := [Cond.fieldLink RX4 15 "CoracleRaceModel$State" "place" "[I", Cond.fieldLink RX4 22 "CoracleRaceModel$State" "heads" "[I", Cond.methodLink RX4 76 Lib.Math.abs.name, Cond.static Lib.Math.abs.name, Cond.initialized "java/lang/Math", Cond.code Lib.Math.abs.name Lib.Math.abs.code 1 (some .int), Cond.fieldLink RX4 3 "CoracleRaceModel$State" "this$0" "LCoracleRaceModel;", Cond.fieldLink RX4 19 "CoracleRaceModel$State" "lane" "[I", Cond.fieldLink RX4 37 "CoracleRaceModel$State" "stops" "[I", Cond.methodLink RX4 67 Lib.Math.min.name, Cond.static Lib.Math.min.name, Cond.code Lib.Math.min.name Lib.Math.min.code 2 (some .int), Cond.fieldLink RX4 52 "CoracleRaceModel$State" "tick" "I", Cond.fieldLink RX4 31 "CoracleRaceModel$State" "came" "[I", Cond.methodLink RX4 95 yX4_paddles, Cond.instanceMethod yX4_paddles, Cond.selects RX4 yX4_paddles yX4_paddles, Cond.initialized RX4, Cond.code yX4_paddles cX4_paddles 4 (some .int), Cond.fieldLink RX4 40 "CoracleRaceModel$State" "length" "[I", Cond.fieldLink RX4 34 "CoracleRaceModel$State" "spins" "[I", Cond.fieldLink RX4 25 "CoracleRaceModel$State" "soaked" "[I", Cond.methodLink RX4 83 Lib.Math.max.name, Cond.static Lib.Math.max.name]
def wsX4_go_r2 : List Cond := [Cond.code Lib.Math.max.name Lib.Math.max.code 2 (some .int), Cond.methodLink RX4 73 yX4_stroke, Cond.instanceMethod yX4_stroke, Cond.selects RX4 yX4_stroke yX4_stroke, Cond.code yX4_stroke cX4_stroke 3 (some .int), Cond.fieldLink RX4 43 "CoracleRaceModel$State" "strokes" "[I", Cond.methodLink RX4 98 yX4_drift, Cond.instanceMethod yX4_drift, Cond.selects RX4 yX4_drift yX4_drift, Cond.code yX4_drift cX4_drift 3 none, Cond.fieldLink RX4 28 "CoracleRaceModel$State" "fouls" "[I", Cond.methodLink RX4 105 yX4_stopsAt, Cond.instanceMethod yX4_stopsAt, Cond.selects RX4 yX4_stopsAt yX4_stopsAt, Cond.code yX4_stopsAt cX4_stopsAt 5 (some .int), Cond.methodLink RX4 108 yX4_soak, Cond.instanceMethod yX4_soak, Cond.selects RX4 yX4_soak yX4_soak, Cond.code yX4_soak cX4_soak 3 none]
def wsX4_go : List Cond := .code yX4_go cX4_go 5 none :: ((wsX4_go_r1 ++ wsX4_go_r2) ++ wsX40 ++ wsX50)
def wsX4_go__r1 : List Cond := [Cond.fieldLink RX4 3 "CoracleRaceModel$State" "this$0" "LCoracleRaceModel;", Cond.fieldLink RX4 52 "CoracleRaceModel$State" "tick" "I", Cond.methodLink RX4 60 yX4_isIn, Cond.instanceMethod yX4_isIn, Cond.selects RX4 yX4_isIn yX4_isIn, Cond.initialized RX4, Cond.code yX4_isIn cX4_isIn 2 (some .boolean), Cond.fieldLink RX4 31 "CoracleRaceModel$State" "came" "[I", Cond.methodLink RX4 115 yX4_go, Cond.instanceMethod yX4_go, Cond.selects RX4 yX4_go yX4_go, Cond.code yX4_go cX4_go 5 none, Cond.fieldLink RX4 15 "CoracleRaceModel$State" "place" "[I", Cond.fieldLink RX4 22 "CoracleRaceModel$State" "heads" "[I", Cond.methodLink RX4 76 Lib.Math.abs.name, Cond.static Lib.Math.abs.name, Cond.initialized "java/lang/Math", Cond.code Lib.Math.abs.name Lib.Math.abs.code 1 (some .int), Cond.fieldLink RX4 19 "CoracleRaceModel$State" "lane" "[I", Cond.fieldLink RX4 37 "CoracleRaceModel$State" "stops" "[I", Cond.methodLink RX4 67 Lib.Math.min.name, Cond.static Lib.Math.min.name, Cond.code Lib.Math.min.name Lib.Math.min.code 2 (some .int), Cond.methodLink RX4 95 yX4_paddles]
def wsX4_go__r2 : List Cond := [Cond.instanceMethod yX4_paddles, Cond.selects RX4 yX4_paddles yX4_paddles, Cond.code yX4_paddles cX4_paddles 4 (some .int), Cond.fieldLink RX4 40 "CoracleRaceModel$State" "length" "[I", Cond.fieldLink RX4 34 "CoracleRaceModel$State" "spins" "[I", Cond.fieldLink RX4 25 "CoracleRaceModel$State" "soaked" "[I", Cond.methodLink RX4 83 Lib.Math.max.name, Cond.static Lib.Math.max.name, Cond.code Lib.Math.max.name Lib.Math.max.code 2 (some .int), Cond.methodLink RX4 73 yX4_stroke, Cond.instanceMethod yX4_stroke, Cond.selects RX4 yX4_stroke yX4_stroke, Cond.code yX4_stroke cX4_stroke 3 (some .int), Cond.fieldLink RX4 43 "CoracleRaceModel$State" "strokes" "[I", Cond.methodLink RX4 98 yX4_drift, Cond.instanceMethod yX4_drift, Cond.selects RX4 yX4_drift yX4_drift, Cond.code yX4_drift cX4_drift 3 none, Cond.fieldLink RX4 28 "CoracleRaceModel$State" "fouls" "[I", Cond.methodLink RX4 105 yX4_stopsAt, Cond.instanceMethod yX4_stopsAt, Cond.selects RX4 yX4_stopsAt yX4_stopsAt, Cond.code yX4_stopsAt cX4_stopsAt 5 (some .int), Cond.methodLink RX4 108 yX4_soak]
def wsX4_go__r3 : List Cond := [Cond.instanceMethod yX4_soak, Cond.selects RX4 yX4_soak yX4_soak, Cond.code yX4_soak cX4_soak 3 none]
def wsX4_go_ : List Cond := .code yX4_go_ cX4_go_ 2 none :: ((wsX4_go__r1 ++ (wsX4_go__r2 ++ wsX4_go__r3)) ++ wsX40 ++ wsX50)
def wsX4_in : List Cond := .code yX4_in cX4_in 3 (some .int) :: ([.fieldLink RX4 3 "CoracleRaceModel$State" "this$0" "LCoracleRaceModel;", .methodLink RX4 60 yX4_isIn, .instanceMethod yX4_isIn, .selects RX4 yX4_isIn yX4_isIn, .initialized RX4, .code yX4_isIn cX4_isIn 2 (some .boolean), .fieldLink RX4 31 "CoracleRaceModel$State" "came" "[I"] ++ wsX40 ++ wsX50)
def wsX4_counted : List Cond := .code yX4_counted cX4_counted 6 (some .int) :: ([.fieldLink RX4 3 "CoracleRaceModel$State" "this$0" "LCoracleRaceModel;", .fieldLink RX4 28 "CoracleRaceModel$State" "fouls" "[I", .fieldLink RX4 15 "CoracleRaceModel$State" "place" "[I", .arrayClass .int, .fieldLink RX4 52 "CoracleRaceModel$State" "tick" "I", .methodLink RX4 60 yX4_isIn, .instanceMethod yX4_isIn, .selects RX4 yX4_isIn yX4_isIn, .initialized RX4, .code yX4_isIn cX4_isIn 2 (some .boolean), .fieldLink RX4 31 "CoracleRaceModel$State" "came" "[I", .methodLink RX4 118 yX4_time, .instanceMethod yX4_time, .selects RX4 yX4_time yX4_time, .code yX4_time cX4_time 2 (some .int), .methodLink RX4 121 yX4_in, .instanceMethod yX4_in, .selects RX4 yX4_in yX4_in, .code yX4_in cX4_in 3 (some .int)] ++ wsX40 ++ wsX50)
def wsX5_init_r1 : List Cond := [Cond.methodLink RX5 1 objectInit, Cond.instanceMethod objectInit, Cond.code objectInit ⟨#[0xb1]⟩ 1 none, Cond.arrayClass .int, Cond.fieldLink RX5 7 "CoracleRaceModel" "water" "[I", Cond.fieldLink RX5 13 "CoracleRaceModel" "weirAt" "[I", Cond.fieldLink RX5 16 "CoracleRaceModel" "gap" "[I", Cond.fieldLink RX5 19 "CoracleRaceModel" "strength" "[I", Cond.classLink RX5 22 RX4, Cond.instantiable RX4 12, Cond.initialized RX4, Cond.fieldLink RX5 27 "CoracleRaceModel" "s" "LCoracleRaceModel$State;", Cond.fieldLink RX5 31 "CoracleRaceModel" "ahead" "LCoracleRaceModel$State;", Cond.instanceMethod yX4_init, Cond.code yX4_init cX4_init 2 none, Cond.fieldLink RX4 3 "CoracleRaceModel$State" "this$0" "LCoracleRaceModel;", Cond.methodLink RX4 9 objectInit, Cond.fieldLink RX4 15 "CoracleRaceModel$State" "place" "[I", Cond.fieldLink RX4 19 "CoracleRaceModel$State" "lane" "[I", Cond.fieldLink RX4 22 "CoracleRaceModel$State" "heads" "[I", Cond.fieldLink RX4 25 "CoracleRaceModel$State" "soaked" "[I", Cond.fieldLink RX4 28 "CoracleRaceModel$State" "fouls" "[I", Cond.fieldLink RX4 31 "CoracleRaceModel$State" "came" "[I", Cond.fieldLink RX4 34 "CoracleRaceModel$State" "spins" "[I"]
def wsX5_init_r2 : List Cond := [Cond.fieldLink RX4 37 "CoracleRaceModel$State" "stops" "[I", Cond.fieldLink RX4 40 "CoracleRaceModel$State" "length" "[I", Cond.fieldLink RX4 43 "CoracleRaceModel$State" "strokes" "[I"]
def wsX5_init : List Cond := .code yX5_init cX5_init 1 none :: ((wsX5_init_r1 ++ wsX5_init_r2) ++ wsX50 ++ wsX40)
def wsX5_thrown : List Cond := .code yX5_thrown cX5_thrown 1 (some .int) :: ([.fieldLink RX5 34 "CoracleRaceModel" "thrown" "I"] ++ wsX50)
def wsX5_no : List Cond := .code yX5_no cX5_no 2 (some .int) :: ([.fieldLink RX5 34 "CoracleRaceModel" "thrown" "I"] ++ wsX50)
def wsX5_isFrom : List Cond := .code yX5_isFrom cX5_isFrom 3 (some .boolean) :: ([])
def wsX5_isBoat : List Cond := .code yX5_isBoat cX5_isBoat 2 (some .boolean) :: ([.fieldLink RX5 38 "CoracleRaceModel" "boats" "I", .methodLink RX5 41 yX5_isFrom, .static yX5_isFrom, .initialized RX5, .code yX5_isFrom cX5_isFrom 3 (some .boolean)] ++ wsX50)
def wsX5_setWater : List Cond := .code yX5_setWater cX5_setWater 4 (some .int) :: ([.fieldLink RX5 34 "CoracleRaceModel" "thrown" "I", .fieldLink RX5 7 "CoracleRaceModel" "water" "[I", .methodLink RX5 41 yX5_isFrom, .static yX5_isFrom, .initialized RX5, .code yX5_isFrom cX5_isFrom 3 (some .boolean), .methodLink RX5 45 yX5_no, .instanceMethod yX5_no, .selects RX5 yX5_no yX5_no, .code yX5_no cX5_no 2 (some .int)] ++ wsX50)
def wsX5_weir : List Cond := .code yX5_weir cX5_weir 5 (some .int) :: ([.fieldLink RX5 34 "CoracleRaceModel" "thrown" "I", .fieldLink RX5 49 "CoracleRaceModel" "weirs" "I", .fieldLink RX5 13 "CoracleRaceModel" "weirAt" "[I", .fieldLink RX5 16 "CoracleRaceModel" "gap" "[I", .methodLink RX5 41 yX5_isFrom, .static yX5_isFrom, .initialized RX5, .code yX5_isFrom cX5_isFrom 3 (some .boolean), .methodLink RX5 45 yX5_no, .instanceMethod yX5_no, .selects RX5 yX5_no yX5_no, .code yX5_no cX5_no 2 (some .int)] ++ wsX50)
def wsX5_launch : List Cond := .code yX5_launch cX5_launch 3 (some .int) :: ([.fieldLink RX5 34 "CoracleRaceModel" "thrown" "I", .fieldLink RX5 38 "CoracleRaceModel" "boats" "I", .fieldLink RX5 19 "CoracleRaceModel" "strength" "[I", .fieldLink RX5 27 "CoracleRaceModel" "s" "LCoracleRaceModel$State;", .methodLink RX5 41 yX5_isFrom, .static yX5_isFrom, .initialized RX5, .code yX5_isFrom cX5_isFrom 3 (some .boolean), .methodLink RX5 45 yX5_no, .instanceMethod yX5_no, .selects RX5 yX5_no yX5_no, .code yX5_no cX5_no 2 (some .int)] ++ wsX50 ++ wsX40)
def wsX5_isPattern : List Cond := .code yX5_isPattern cX5_isPattern 3 (some .boolean) :: ([.fieldLink RX5 64 "CoracleRaceModel" "TENS" "[I", .methodLink RX5 41 yX5_isFrom, .static yX5_isFrom, .initialized RX5, .code yX5_isFrom cX5_isFrom 3 (some .boolean)])
def wsX5_paddle : List Cond := .code yX5_paddle cX5_paddle 5 (some .int) :: ([.fieldLink RX5 34 "CoracleRaceModel" "thrown" "I", .fieldLink RX5 27 "CoracleRaceModel" "s" "LCoracleRaceModel$State;", .methodLink RX5 67 yX5_isBoat, .instanceMethod yX5_isBoat, .selects RX5 yX5_isBoat yX5_isBoat, .initialized RX5, .code yX5_isBoat cX5_isBoat 2 (some .boolean), .fieldLink RX5 38 "CoracleRaceModel" "boats" "I", .methodLink RX5 41 yX5_isFrom, .static yX5_isFrom, .code yX5_isFrom cX5_isFrom 3 (some .boolean), .methodLink RX5 45 yX5_no, .instanceMethod yX5_no, .selects RX5 yX5_no yX5_no, .code yX5_no cX5_no 2 (some .int), .methodLink RX5 71 yX5_isPattern, .static yX5_isPattern, .code yX5_isPattern cX5_isPattern 3 (some .boolean), .fieldLink RX5 64 "CoracleRaceModel" "TENS" "[I"] ++ wsX50 ++ wsX40)
def wsX5_tar : List Cond := .code yX5_tar cX5_tar 3 (some .int) :: ([.fieldLink RX5 34 "CoracleRaceModel" "thrown" "I", .fieldLink RX5 27 "CoracleRaceModel" "s" "LCoracleRaceModel$State;", .methodLink RX5 67 yX5_isBoat, .instanceMethod yX5_isBoat, .selects RX5 yX5_isBoat yX5_isBoat, .initialized RX5, .code yX5_isBoat cX5_isBoat 2 (some .boolean), .fieldLink RX5 38 "CoracleRaceModel" "boats" "I", .methodLink RX5 41 yX5_isFrom, .static yX5_isFrom, .code yX5_isFrom cX5_isFrom 3 (some .boolean), .methodLink RX5 45 yX5_no, .instanceMethod yX5_no, .selects RX5 yX5_no yX5_no, .code yX5_no cX5_no 2 (some .int), .methodLink RX5 75 yX4_isIn, .instanceMethod yX4_isIn, .selects RX4 yX4_isIn yX4_isIn, .initialized RX4, .code yX4_isIn cX4_isIn 2 (some .boolean), .fieldLink RX4 31 "CoracleRaceModel$State" "came" "[I"] ++ wsX50 ++ wsX40)
def wsX5_boatTold : List Cond := .code yX5_boatTold cX5_boatTold 4 (some .int) :: ([.arrayClass .int, .fieldLink RX5 27 "CoracleRaceModel" "s" "LCoracleRaceModel$State;", .methodLink RX5 75 yX4_isIn, .instanceMethod yX4_isIn, .selects RX4 yX4_isIn yX4_isIn, .initialized RX4, .code yX4_isIn cX4_isIn 2 (some .boolean), .fieldLink RX4 31 "CoracleRaceModel$State" "came" "[I", .methodLink RX5 90 yX4_time, .instanceMethod yX4_time, .selects RX4 yX4_time yX4_time, .code yX4_time cX4_time 2 (some .int), .fieldLink RX4 28 "CoracleRaceModel$State" "fouls" "[I", .methodLink RX4 60 yX4_isIn] ++ wsX50 ++ wsX40)
def wsX5_boat_r1 : List Cond := [Cond.fieldLink RX5 34 "CoracleRaceModel" "thrown" "I", Cond.methodLink RX5 67 yX5_isBoat, Cond.instanceMethod yX5_isBoat, Cond.selects RX5 yX5_isBoat yX5_isBoat, Cond.initialized RX5, Cond.code yX5_isBoat cX5_isBoat 2 (some .boolean), Cond.fieldLink RX5 38 "CoracleRaceModel" "boats" "I", Cond.methodLink RX5 41 yX5_isFrom, Cond.static yX5_isFrom, Cond.code yX5_isFrom cX5_isFrom 3 (some .boolean), Cond.methodLink RX5 99 yX5_boatTold, Cond.instanceMethod yX5_boatTold, Cond.selects RX5 yX5_boatTold yX5_boatTold, Cond.code yX5_boatTold cX5_boatTold 4 (some .int), Cond.arrayClass .int, Cond.fieldLink RX5 27 "CoracleRaceModel" "s" "LCoracleRaceModel$State;", Cond.methodLink RX5 75 yX4_isIn, Cond.instanceMethod yX4_isIn, Cond.selects RX4 yX4_isIn yX4_isIn, Cond.initialized RX4, Cond.code yX4_isIn cX4_isIn 2 (some .boolean), Cond.fieldLink RX4 31 "CoracleRaceModel$State" "came" "[I", Cond.methodLink RX5 90 yX4_time, Cond.instanceMethod yX4_time]
def wsX5_boat_r2 : List Cond := [Cond.selects RX4 yX4_time yX4_time, Cond.code yX4_time cX4_time 2 (some .int), Cond.fieldLink RX4 28 "CoracleRaceModel$State" "fouls" "[I", Cond.methodLink RX4 60 yX4_isIn, Cond.methodLink RX5 45 yX5_no, Cond.instanceMethod yX5_no, Cond.selects RX5 yX5_no yX5_no, Cond.code yX5_no cX5_no 2 (some .int)]
def wsX5_boat : List Cond := .code yX5_boat cX5_boat 3 (some .int) :: ((wsX5_boat_r1 ++ wsX5_boat_r2) ++ wsX50 ++ wsX40)
def wsX5_count_r1 : List Cond := [Cond.fieldLink RX5 34 "CoracleRaceModel" "thrown" "I", Cond.fieldLink RX5 27 "CoracleRaceModel" "s" "LCoracleRaceModel$State;", Cond.methodLink RX5 41 yX5_isFrom, Cond.static yX5_isFrom, Cond.initialized RX5, Cond.code yX5_isFrom cX5_isFrom 3 (some .boolean), Cond.methodLink RX5 103 yX4_counted, Cond.instanceMethod yX4_counted, Cond.selects RX4 yX4_counted yX4_counted, Cond.initialized RX4, Cond.code yX4_counted cX4_counted 6 (some .int), Cond.fieldLink RX4 3 "CoracleRaceModel$State" "this$0" "LCoracleRaceModel;", Cond.fieldLink RX4 28 "CoracleRaceModel$State" "fouls" "[I", Cond.fieldLink RX4 15 "CoracleRaceModel$State" "place" "[I", Cond.arrayClass .int, Cond.fieldLink RX4 52 "CoracleRaceModel$State" "tick" "I", Cond.methodLink RX4 60 yX4_isIn, Cond.instanceMethod yX4_isIn, Cond.selects RX4 yX4_isIn yX4_isIn, Cond.code yX4_isIn cX4_isIn 2 (some .boolean), Cond.fieldLink RX4 31 "CoracleRaceModel$State" "came" "[I", Cond.methodLink RX4 118 yX4_time, Cond.instanceMethod yX4_time, Cond.selects RX4 yX4_time yX4_time]
def wsX5_count_r2 : List Cond := [Cond.code yX4_time cX4_time 2 (some .int), Cond.methodLink RX4 121 yX4_in, Cond.instanceMethod yX4_in, Cond.selects RX4 yX4_in yX4_in, Cond.code yX4_in cX4_in 3 (some .int), Cond.methodLink RX5 45 yX5_no, Cond.instanceMethod yX5_no, Cond.selects RX5 yX5_no yX5_no, Cond.code yX5_no cX5_no 2 (some .int)]
def wsX5_count : List Cond := .code yX5_count cX5_count 2 (some .int) :: ((wsX5_count_r1 ++ wsX5_count_r2) ++ wsX50 ++ wsX40)
def wsX5_next : List Cond := .code yX5_next cX5_next 4 (some .int) :: ([.fieldLink RX5 34 "CoracleRaceModel" "thrown" "I", .fieldLink RX5 49 "CoracleRaceModel" "weirs" "I", .fieldLink RX5 13 "CoracleRaceModel" "weirAt" "[I", .methodLink RX5 106 Lib.Math.min.name, .static Lib.Math.min.name, .initialized "java/lang/Math", .code Lib.Math.min.name Lib.Math.min.code 2 (some .int), .methodLink RX5 41 yX5_isFrom, .static yX5_isFrom, .initialized RX5, .code yX5_isFrom cX5_isFrom 3 (some .boolean), .methodLink RX5 45 yX5_no, .instanceMethod yX5_no, .selects RX5 yX5_no yX5_no, .code yX5_no cX5_no 2 (some .int)] ++ wsX50)
def wsX5_isAhead : List Cond := .code yX5_isAhead cX5_isAhead 3 (some .boolean) :: ([.fieldLink RX5 27 "CoracleRaceModel" "s" "LCoracleRaceModel$State;", .methodLink RX5 75 yX4_isIn, .instanceMethod yX4_isIn, .selects RX4 yX4_isIn yX4_isIn, .initialized RX4, .code yX4_isIn cX4_isIn 2 (some .boolean), .fieldLink RX4 31 "CoracleRaceModel$State" "came" "[I", .methodLink RX5 90 yX4_time, .instanceMethod yX4_time, .selects RX4 yX4_time yX4_time, .code yX4_time cX4_time 2 (some .int), .fieldLink RX4 28 "CoracleRaceModel$State" "fouls" "[I", .methodLink RX4 60 yX4_isIn] ++ wsX50 ++ wsX40)
def wsX5_rankOf : List Cond := .code yX5_rankOf cX5_rankOf 4 (some .int) :: ([.fieldLink RX5 38 "CoracleRaceModel" "boats" "I", .methodLink RX5 111 yX5_isAhead, .instanceMethod yX5_isAhead, .selects RX5 yX5_isAhead yX5_isAhead, .initialized RX5, .code yX5_isAhead cX5_isAhead 3 (some .boolean), .fieldLink RX5 27 "CoracleRaceModel" "s" "LCoracleRaceModel$State;", .methodLink RX5 75 yX4_isIn, .instanceMethod yX4_isIn, .selects RX4 yX4_isIn yX4_isIn, .initialized RX4, .code yX4_isIn cX4_isIn 2 (some .boolean), .fieldLink RX4 31 "CoracleRaceModel$State" "came" "[I", .methodLink RX5 90 yX4_time, .instanceMethod yX4_time, .selects RX4 yX4_time yX4_time, .code yX4_time cX4_time 2 (some .int), .fieldLink RX4 28 "CoracleRaceModel$State" "fouls" "[I", .methodLink RX4 60 yX4_isIn] ++ wsX50 ++ wsX40)
def wsX5_rank_r1 : List Cond := [Cond.fieldLink RX5 34 "CoracleRaceModel" "thrown" "I", Cond.methodLink RX5 67 yX5_isBoat, Cond.instanceMethod yX5_isBoat, Cond.selects RX5 yX5_isBoat yX5_isBoat, Cond.initialized RX5, Cond.code yX5_isBoat cX5_isBoat 2 (some .boolean), Cond.fieldLink RX5 38 "CoracleRaceModel" "boats" "I", Cond.methodLink RX5 41 yX5_isFrom, Cond.static yX5_isFrom, Cond.code yX5_isFrom cX5_isFrom 3 (some .boolean), Cond.methodLink RX5 114 yX5_rankOf, Cond.instanceMethod yX5_rankOf, Cond.selects RX5 yX5_rankOf yX5_rankOf, Cond.code yX5_rankOf cX5_rankOf 4 (some .int), Cond.methodLink RX5 111 yX5_isAhead, Cond.instanceMethod yX5_isAhead, Cond.selects RX5 yX5_isAhead yX5_isAhead, Cond.code yX5_isAhead cX5_isAhead 3 (some .boolean), Cond.fieldLink RX5 27 "CoracleRaceModel" "s" "LCoracleRaceModel$State;", Cond.methodLink RX5 75 yX4_isIn, Cond.instanceMethod yX4_isIn, Cond.selects RX4 yX4_isIn yX4_isIn, Cond.initialized RX4, Cond.code yX4_isIn cX4_isIn 2 (some .boolean)]
def wsX5_rank_r2 : List Cond := [Cond.fieldLink RX4 31 "CoracleRaceModel$State" "came" "[I", Cond.methodLink RX5 90 yX4_time, Cond.instanceMethod yX4_time, Cond.selects RX4 yX4_time yX4_time, Cond.code yX4_time cX4_time 2 (some .int), Cond.fieldLink RX4 28 "CoracleRaceModel$State" "fouls" "[I", Cond.methodLink RX4 60 yX4_isIn, Cond.methodLink RX5 45 yX5_no, Cond.instanceMethod yX5_no, Cond.selects RX5 yX5_no yX5_no, Cond.code yX5_no cX5_no 2 (some .int)]
def wsX5_rank : List Cond := .code yX5_rank cX5_rank 2 (some .int) :: ((wsX5_rank_r1 ++ wsX5_rank_r2) ++ wsX50 ++ wsX40)
def wsX5_go_r1 : List Cond := [Cond.fieldLink RX5 34 "CoracleRaceModel" "thrown" "I", Cond.fieldLink RX5 27 "CoracleRaceModel" "s" "LCoracleRaceModel$State;", Cond.methodLink RX5 41 yX5_isFrom, Cond.static yX5_isFrom, Cond.initialized RX5, Cond.code yX5_isFrom cX5_isFrom 3 (some .boolean), Cond.methodLink RX5 45 yX5_no, Cond.instanceMethod yX5_no, Cond.selects RX5 yX5_no yX5_no, Cond.code yX5_no cX5_no 2 (some .int), Cond.methodLink RX5 117 yX4_in, Cond.instanceMethod yX4_in, Cond.selects RX4 yX4_in yX4_in, Cond.initialized RX4, Cond.code yX4_in cX4_in 3 (some .int), Cond.fieldLink RX4 3 "CoracleRaceModel$State" "this$0" "LCoracleRaceModel;", Cond.methodLink RX4 60 yX4_isIn, Cond.instanceMethod yX4_isIn, Cond.selects RX4 yX4_isIn yX4_isIn, Cond.code yX4_isIn cX4_isIn 2 (some .boolean), Cond.fieldLink RX4 31 "CoracleRaceModel$State" "came" "[I", Cond.methodLink RX5 121 yX4_go_, Cond.instanceMethod yX4_go_, Cond.selects RX4 yX4_go_ yX4_go_]
def wsX5_go_r2 : List Cond := [Cond.code yX4_go_ cX4_go_ 2 none, Cond.fieldLink RX4 52 "CoracleRaceModel$State" "tick" "I", Cond.methodLink RX4 115 yX4_go, Cond.instanceMethod yX4_go, Cond.selects RX4 yX4_go yX4_go, Cond.code yX4_go cX4_go 5 none, Cond.fieldLink RX4 15 "CoracleRaceModel$State" "place" "[I", Cond.fieldLink RX4 22 "CoracleRaceModel$State" "heads" "[I", Cond.methodLink RX4 76 Lib.Math.abs.name, Cond.static Lib.Math.abs.name, Cond.initialized "java/lang/Math", Cond.code Lib.Math.abs.name Lib.Math.abs.code 1 (some .int), Cond.fieldLink RX4 19 "CoracleRaceModel$State" "lane" "[I", Cond.fieldLink RX4 37 "CoracleRaceModel$State" "stops" "[I", Cond.methodLink RX4 67 Lib.Math.min.name, Cond.static Lib.Math.min.name, Cond.code Lib.Math.min.name Lib.Math.min.code 2 (some .int), Cond.methodLink RX4 95 yX4_paddles, Cond.instanceMethod yX4_paddles, Cond.selects RX4 yX4_paddles yX4_paddles, Cond.code yX4_paddles cX4_paddles 4 (some .int), Cond.fieldLink RX4 40 "CoracleRaceModel$State" "length" "[I", Cond.fieldLink RX4 34 "CoracleRaceModel$State" "spins" "[I", Cond.fieldLink RX4 25 "CoracleRaceModel$State" "soaked" "[I"]
def wsX5_go_r3 : List Cond := [Cond.methodLink RX4 83 Lib.Math.max.name, Cond.static Lib.Math.max.name, Cond.code Lib.Math.max.name Lib.Math.max.code 2 (some .int), Cond.methodLink RX4 73 yX4_stroke, Cond.instanceMethod yX4_stroke, Cond.selects RX4 yX4_stroke yX4_stroke, Cond.code yX4_stroke cX4_stroke 3 (some .int), Cond.fieldLink RX4 43 "CoracleRaceModel$State" "strokes" "[I", Cond.methodLink RX4 98 yX4_drift, Cond.instanceMethod yX4_drift, Cond.selects RX4 yX4_drift yX4_drift, Cond.code yX4_drift cX4_drift 3 none, Cond.fieldLink RX4 28 "CoracleRaceModel$State" "fouls" "[I", Cond.methodLink RX4 105 yX4_stopsAt, Cond.instanceMethod yX4_stopsAt, Cond.selects RX4 yX4_stopsAt yX4_stopsAt, Cond.code yX4_stopsAt cX4_stopsAt 5 (some .int), Cond.methodLink RX4 108 yX4_soak, Cond.instanceMethod yX4_soak, Cond.selects RX4 yX4_soak yX4_soak, Cond.code yX4_soak cX4_soak 3 none]
def wsX5_go : List Cond := .code yX5_go cX5_go 4 (some .int) :: ((wsX5_go_r1 ++ (wsX5_go_r2 ++ wsX5_go_r3)) ++ wsX50 ++ wsX40)
def wsX5_arrives_r1 : List Cond := [Cond.fieldLink RX5 34 "CoracleRaceModel" "thrown" "I", Cond.fieldLink RX5 31 "CoracleRaceModel" "ahead" "LCoracleRaceModel$State;", Cond.fieldLink RX5 27 "CoracleRaceModel" "s" "LCoracleRaceModel$State;", Cond.methodLink RX5 67 yX5_isBoat, Cond.instanceMethod yX5_isBoat, Cond.selects RX5 yX5_isBoat yX5_isBoat, Cond.initialized RX5, Cond.code yX5_isBoat cX5_isBoat 2 (some .boolean), Cond.fieldLink RX5 38 "CoracleRaceModel" "boats" "I", Cond.methodLink RX5 41 yX5_isFrom, Cond.static yX5_isFrom, Cond.code yX5_isFrom cX5_isFrom 3 (some .boolean), Cond.methodLink RX5 45 yX5_no, Cond.instanceMethod yX5_no, Cond.selects RX5 yX5_no yX5_no, Cond.code yX5_no cX5_no 2 (some .int), Cond.methodLink RX5 124 yX4_become, Cond.instanceMethod yX4_become, Cond.selects RX4 yX4_become yX4_become, Cond.initialized RX4, Cond.code yX4_become cX4_become 2 none, Cond.fieldLink RX4 52 "CoracleRaceModel$State" "tick" "I", Cond.fieldLink RX4 15 "CoracleRaceModel$State" "place" "[I", Cond.fieldLink RX4 19 "CoracleRaceModel$State" "lane" "[I"]
def wsX5_arrives_r2 : List Cond := [Cond.fieldLink RX4 22 "CoracleRaceModel$State" "heads" "[I", Cond.fieldLink RX4 25 "CoracleRaceModel$State" "soaked" "[I", Cond.fieldLink RX4 28 "CoracleRaceModel$State" "fouls" "[I", Cond.fieldLink RX4 31 "CoracleRaceModel$State" "came" "[I", Cond.fieldLink RX4 34 "CoracleRaceModel$State" "spins" "[I", Cond.fieldLink RX4 37 "CoracleRaceModel$State" "stops" "[I", Cond.fieldLink RX4 40 "CoracleRaceModel$State" "length" "[I", Cond.fieldLink RX4 43 "CoracleRaceModel$State" "strokes" "[I", Cond.methodLink RX4 56 yX4_copy, Cond.instanceMethod yX4_copy, Cond.selects RX4 yX4_copy yX4_copy, Cond.code yX4_copy cX4_copy 3 none, Cond.methodLink RX4 46 arraycopyName, Cond.native arraycopyName, Cond.static arraycopyName, Cond.initialized "java/lang/System", Cond.methodLink RX5 75 yX4_isIn, Cond.instanceMethod yX4_isIn, Cond.selects RX4 yX4_isIn yX4_isIn, Cond.code yX4_isIn cX4_isIn 2 (some .boolean), Cond.methodLink RX5 121 yX4_go_, Cond.instanceMethod yX4_go_, Cond.selects RX4 yX4_go_ yX4_go_, Cond.code yX4_go_ cX4_go_ 2 none]
def wsX5_arrives_r3 : List Cond := [Cond.fieldLink RX4 3 "CoracleRaceModel$State" "this$0" "LCoracleRaceModel;", Cond.methodLink RX4 60 yX4_isIn, Cond.methodLink RX4 115 yX4_go, Cond.instanceMethod yX4_go, Cond.selects RX4 yX4_go yX4_go, Cond.code yX4_go cX4_go 5 none, Cond.methodLink RX4 76 Lib.Math.abs.name, Cond.static Lib.Math.abs.name, Cond.initialized "java/lang/Math", Cond.code Lib.Math.abs.name Lib.Math.abs.code 1 (some .int), Cond.methodLink RX4 67 Lib.Math.min.name, Cond.static Lib.Math.min.name, Cond.code Lib.Math.min.name Lib.Math.min.code 2 (some .int), Cond.methodLink RX4 95 yX4_paddles, Cond.instanceMethod yX4_paddles, Cond.selects RX4 yX4_paddles yX4_paddles, Cond.code yX4_paddles cX4_paddles 4 (some .int), Cond.methodLink RX4 83 Lib.Math.max.name, Cond.static Lib.Math.max.name, Cond.code Lib.Math.max.name Lib.Math.max.code 2 (some .int), Cond.methodLink RX4 73 yX4_stroke, Cond.instanceMethod yX4_stroke, Cond.selects RX4 yX4_stroke yX4_stroke, Cond.code yX4_stroke cX4_stroke 3 (some .int)]
def wsX5_arrives_r4 : List Cond := [Cond.methodLink RX4 98 yX4_drift, Cond.instanceMethod yX4_drift, Cond.selects RX4 yX4_drift yX4_drift, Cond.code yX4_drift cX4_drift 3 none, Cond.methodLink RX4 105 yX4_stopsAt, Cond.instanceMethod yX4_stopsAt, Cond.selects RX4 yX4_stopsAt yX4_stopsAt, Cond.code yX4_stopsAt cX4_stopsAt 5 (some .int), Cond.methodLink RX4 108 yX4_soak, Cond.instanceMethod yX4_soak, Cond.selects RX4 yX4_soak yX4_soak, Cond.code yX4_soak cX4_soak 3 none]
def wsX5_arrives : List Cond := .code yX5_arrives cX5_arrives 3 (some .int) :: ((wsX5_arrives_r1 ++ (wsX5_arrives_r2 ++ (wsX5_arrives_r3 ++ wsX5_arrives_r4))) ++ wsX50 ++ wsX40)
def wsX5_foresee_r1 : List Cond := [Cond.fieldLink RX5 34 "CoracleRaceModel" "thrown" "I", Cond.fieldLink RX5 31 "CoracleRaceModel" "ahead" "LCoracleRaceModel$State;", Cond.fieldLink RX5 27 "CoracleRaceModel" "s" "LCoracleRaceModel$State;", Cond.methodLink RX5 41 yX5_isFrom, Cond.static yX5_isFrom, Cond.initialized RX5, Cond.code yX5_isFrom cX5_isFrom 3 (some .boolean), Cond.methodLink RX5 45 yX5_no, Cond.instanceMethod yX5_no, Cond.selects RX5 yX5_no yX5_no, Cond.code yX5_no cX5_no 2 (some .int), Cond.methodLink RX5 124 yX4_become, Cond.instanceMethod yX4_become, Cond.selects RX4 yX4_become yX4_become, Cond.initialized RX4, Cond.code yX4_become cX4_become 2 none, Cond.fieldLink RX4 52 "CoracleRaceModel$State" "tick" "I", Cond.fieldLink RX4 15 "CoracleRaceModel$State" "place" "[I", Cond.fieldLink RX4 19 "CoracleRaceModel$State" "lane" "[I", Cond.fieldLink RX4 22 "CoracleRaceModel$State" "heads" "[I", Cond.fieldLink RX4 25 "CoracleRaceModel$State" "soaked" "[I", Cond.fieldLink RX4 28 "CoracleRaceModel$State" "fouls" "[I", Cond.fieldLink RX4 31 "CoracleRaceModel$State" "came" "[I", Cond.fieldLink RX4 34 "CoracleRaceModel$State" "spins" "[I"]
def wsX5_foresee_r2 : List Cond := [Cond.fieldLink RX4 37 "CoracleRaceModel$State" "stops" "[I", Cond.fieldLink RX4 40 "CoracleRaceModel$State" "length" "[I", Cond.fieldLink RX4 43 "CoracleRaceModel$State" "strokes" "[I", Cond.methodLink RX4 56 yX4_copy, Cond.instanceMethod yX4_copy, Cond.selects RX4 yX4_copy yX4_copy, Cond.code yX4_copy cX4_copy 3 none, Cond.methodLink RX4 46 arraycopyName, Cond.native arraycopyName, Cond.static arraycopyName, Cond.initialized "java/lang/System", Cond.methodLink RX5 121 yX4_go_, Cond.instanceMethod yX4_go_, Cond.selects RX4 yX4_go_ yX4_go_, Cond.code yX4_go_ cX4_go_ 2 none, Cond.fieldLink RX4 3 "CoracleRaceModel$State" "this$0" "LCoracleRaceModel;", Cond.methodLink RX4 60 yX4_isIn, Cond.instanceMethod yX4_isIn, Cond.selects RX4 yX4_isIn yX4_isIn, Cond.code yX4_isIn cX4_isIn 2 (some .boolean), Cond.methodLink RX4 115 yX4_go, Cond.instanceMethod yX4_go, Cond.selects RX4 yX4_go yX4_go, Cond.code yX4_go cX4_go 5 none]
def wsX5_foresee_r3 : List Cond := [Cond.methodLink RX4 76 Lib.Math.abs.name, Cond.static Lib.Math.abs.name, Cond.initialized "java/lang/Math", Cond.code Lib.Math.abs.name Lib.Math.abs.code 1 (some .int), Cond.methodLink RX4 67 Lib.Math.min.name, Cond.static Lib.Math.min.name, Cond.code Lib.Math.min.name Lib.Math.min.code 2 (some .int), Cond.methodLink RX4 95 yX4_paddles, Cond.instanceMethod yX4_paddles, Cond.selects RX4 yX4_paddles yX4_paddles, Cond.code yX4_paddles cX4_paddles 4 (some .int), Cond.methodLink RX4 83 Lib.Math.max.name, Cond.static Lib.Math.max.name, Cond.code Lib.Math.max.name Lib.Math.max.code 2 (some .int), Cond.methodLink RX4 73 yX4_stroke, Cond.instanceMethod yX4_stroke, Cond.selects RX4 yX4_stroke yX4_stroke, Cond.code yX4_stroke cX4_stroke 3 (some .int), Cond.methodLink RX4 98 yX4_drift, Cond.instanceMethod yX4_drift, Cond.selects RX4 yX4_drift yX4_drift, Cond.code yX4_drift cX4_drift 3 none, Cond.methodLink RX4 105 yX4_stopsAt, Cond.instanceMethod yX4_stopsAt]
def wsX5_foresee_r4 : List Cond := [Cond.selects RX4 yX4_stopsAt yX4_stopsAt, Cond.code yX4_stopsAt cX4_stopsAt 5 (some .int), Cond.methodLink RX4 108 yX4_soak, Cond.instanceMethod yX4_soak, Cond.selects RX4 yX4_soak yX4_soak, Cond.code yX4_soak cX4_soak 3 none, Cond.methodLink RX5 103 yX4_counted, Cond.instanceMethod yX4_counted, Cond.selects RX4 yX4_counted yX4_counted, Cond.code yX4_counted cX4_counted 6 (some .int), Cond.arrayClass .int, Cond.methodLink RX4 118 yX4_time, Cond.instanceMethod yX4_time, Cond.selects RX4 yX4_time yX4_time, Cond.code yX4_time cX4_time 2 (some .int), Cond.methodLink RX4 121 yX4_in, Cond.instanceMethod yX4_in, Cond.selects RX4 yX4_in yX4_in, Cond.code yX4_in cX4_in 3 (some .int)]
def wsX5_foresee : List Cond := .code yX5_foresee cX5_foresee 4 (some .int) :: ((wsX5_foresee_r1 ++ (wsX5_foresee_r2 ++ (wsX5_foresee_r3 ++ wsX5_foresee_r4))) ++ wsX50 ++ wsX40)
def wsX5_advise_r1 : List Cond := [Cond.fieldLink RX5 34 "CoracleRaceModel" "thrown" "I", Cond.fieldLink RX5 31 "CoracleRaceModel" "ahead" "LCoracleRaceModel$State;", Cond.fieldLink RX5 27 "CoracleRaceModel" "s" "LCoracleRaceModel$State;", Cond.methodLink RX5 67 yX5_isBoat, Cond.instanceMethod yX5_isBoat, Cond.selects RX5 yX5_isBoat yX5_isBoat, Cond.initialized RX5, Cond.code yX5_isBoat cX5_isBoat 2 (some .boolean), Cond.fieldLink RX5 38 "CoracleRaceModel" "boats" "I", Cond.methodLink RX5 41 yX5_isFrom, Cond.static yX5_isFrom, Cond.code yX5_isFrom cX5_isFrom 3 (some .boolean), Cond.methodLink RX5 45 yX5_no, Cond.instanceMethod yX5_no, Cond.selects RX5 yX5_no yX5_no, Cond.code yX5_no cX5_no 2 (some .int), Cond.methodLink RX5 124 yX4_become, Cond.instanceMethod yX4_become, Cond.selects RX4 yX4_become yX4_become, Cond.initialized RX4, Cond.code yX4_become cX4_become 2 none, Cond.fieldLink RX4 52 "CoracleRaceModel$State" "tick" "I", Cond.fieldLink RX4 15 "CoracleRaceModel$State" "place" "[I", Cond.fieldLink RX4 19 "CoracleRaceModel$State" "lane" "[I"]
def wsX5_advise_r2 : List Cond := [Cond.fieldLink RX4 22 "CoracleRaceModel$State" "heads" "[I", Cond.fieldLink RX4 25 "CoracleRaceModel$State" "soaked" "[I", Cond.fieldLink RX4 28 "CoracleRaceModel$State" "fouls" "[I", Cond.fieldLink RX4 31 "CoracleRaceModel$State" "came" "[I", Cond.fieldLink RX4 34 "CoracleRaceModel$State" "spins" "[I", Cond.fieldLink RX4 37 "CoracleRaceModel$State" "stops" "[I", Cond.fieldLink RX4 40 "CoracleRaceModel$State" "length" "[I", Cond.fieldLink RX4 43 "CoracleRaceModel$State" "strokes" "[I", Cond.methodLink RX4 56 yX4_copy, Cond.instanceMethod yX4_copy, Cond.selects RX4 yX4_copy yX4_copy, Cond.code yX4_copy cX4_copy 3 none, Cond.methodLink RX4 46 arraycopyName, Cond.native arraycopyName, Cond.static arraycopyName, Cond.initialized "java/lang/System", Cond.methodLink RX5 121 yX4_go_, Cond.instanceMethod yX4_go_, Cond.selects RX4 yX4_go_ yX4_go_, Cond.code yX4_go_ cX4_go_ 2 none, Cond.fieldLink RX4 3 "CoracleRaceModel$State" "this$0" "LCoracleRaceModel;", Cond.methodLink RX4 60 yX4_isIn, Cond.instanceMethod yX4_isIn, Cond.selects RX4 yX4_isIn yX4_isIn]
def wsX5_advise_r3 : List Cond := [Cond.code yX4_isIn cX4_isIn 2 (some .boolean), Cond.methodLink RX4 115 yX4_go, Cond.instanceMethod yX4_go, Cond.selects RX4 yX4_go yX4_go, Cond.code yX4_go cX4_go 5 none, Cond.methodLink RX4 76 Lib.Math.abs.name, Cond.static Lib.Math.abs.name, Cond.initialized "java/lang/Math", Cond.code Lib.Math.abs.name Lib.Math.abs.code 1 (some .int), Cond.methodLink RX4 67 Lib.Math.min.name, Cond.static Lib.Math.min.name, Cond.code Lib.Math.min.name Lib.Math.min.code 2 (some .int), Cond.methodLink RX4 95 yX4_paddles, Cond.instanceMethod yX4_paddles, Cond.selects RX4 yX4_paddles yX4_paddles, Cond.code yX4_paddles cX4_paddles 4 (some .int), Cond.methodLink RX4 83 Lib.Math.max.name, Cond.static Lib.Math.max.name, Cond.code Lib.Math.max.name Lib.Math.max.code 2 (some .int), Cond.methodLink RX4 73 yX4_stroke, Cond.instanceMethod yX4_stroke, Cond.selects RX4 yX4_stroke yX4_stroke, Cond.code yX4_stroke cX4_stroke 3 (some .int), Cond.methodLink RX4 98 yX4_drift]
def wsX5_advise_r4 : List Cond := [Cond.instanceMethod yX4_drift, Cond.selects RX4 yX4_drift yX4_drift, Cond.code yX4_drift cX4_drift 3 none, Cond.methodLink RX4 105 yX4_stopsAt, Cond.instanceMethod yX4_stopsAt, Cond.selects RX4 yX4_stopsAt yX4_stopsAt, Cond.code yX4_stopsAt cX4_stopsAt 5 (some .int), Cond.methodLink RX4 108 yX4_soak, Cond.instanceMethod yX4_soak, Cond.selects RX4 yX4_soak yX4_soak, Cond.code yX4_soak cX4_soak 3 none]
def wsX5_advise : List Cond := .code yX5_advise cX5_advise 7 (some .int) :: ((wsX5_advise_r1 ++ (wsX5_advise_r2 ++ (wsX5_advise_r3 ++ wsX5_advise_r4))) ++ wsX50 ++ wsX40)
def wsX5_mean : List Cond := .code yX5_mean cX5_mean 3 (some .double) :: ([.fieldLink RX5 34 "CoracleRaceModel" "thrown" "I", .fieldLink RX5 38 "CoracleRaceModel" "boats" "I", .fieldLink RX5 27 "CoracleRaceModel" "s" "LCoracleRaceModel$State;"] ++ wsX50 ++ wsX40)
def wsX5_digest_r1 : List Cond := [Cond.fieldLink RX5 34 "CoracleRaceModel" "thrown" "I", Cond.constantLong RX5 128 (1163), Cond.constantLong RX5 130 (31), Cond.fieldLink RX5 27 "CoracleRaceModel" "s" "LCoracleRaceModel$State;", Cond.fieldLink RX5 7 "CoracleRaceModel" "water" "[I", Cond.fieldLink RX5 49 "CoracleRaceModel" "weirs" "I", Cond.fieldLink RX5 13 "CoracleRaceModel" "weirAt" "[I", Cond.fieldLink RX5 16 "CoracleRaceModel" "gap" "[I", Cond.fieldLink RX5 38 "CoracleRaceModel" "boats" "I", Cond.methodLink RX5 103 yX4_counted, Cond.instanceMethod yX4_counted, Cond.selects RX4 yX4_counted yX4_counted, Cond.initialized RX4, Cond.code yX4_counted cX4_counted 6 (some .int), Cond.fieldLink RX4 3 "CoracleRaceModel$State" "this$0" "LCoracleRaceModel;", Cond.fieldLink RX4 28 "CoracleRaceModel$State" "fouls" "[I", Cond.fieldLink RX4 15 "CoracleRaceModel$State" "place" "[I", Cond.arrayClass .int, Cond.fieldLink RX4 52 "CoracleRaceModel$State" "tick" "I", Cond.methodLink RX4 60 yX4_isIn, Cond.instanceMethod yX4_isIn, Cond.selects RX4 yX4_isIn yX4_isIn, Cond.code yX4_isIn cX4_isIn 2 (some .boolean), Cond.fieldLink RX4 31 "CoracleRaceModel$State" "came" "[I"]
def wsX5_digest_r2 : List Cond := [Cond.methodLink RX4 118 yX4_time, Cond.instanceMethod yX4_time, Cond.selects RX4 yX4_time yX4_time, Cond.code yX4_time cX4_time 2 (some .int), Cond.methodLink RX4 121 yX4_in, Cond.instanceMethod yX4_in, Cond.selects RX4 yX4_in yX4_in, Cond.code yX4_in cX4_in 3 (some .int), Cond.methodLink RX5 99 yX5_boatTold, Cond.instanceMethod yX5_boatTold, Cond.selects RX5 yX5_boatTold yX5_boatTold, Cond.initialized RX5, Cond.code yX5_boatTold cX5_boatTold 4 (some .int), Cond.methodLink RX5 75 yX4_isIn, Cond.methodLink RX5 90 yX4_time, Cond.methodLink RX5 132 yX4_stroke, Cond.instanceMethod yX4_stroke, Cond.selects RX4 yX4_stroke yX4_stroke, Cond.code yX4_stroke cX4_stroke 3 (some .int), Cond.fieldLink RX4 43 "CoracleRaceModel$State" "strokes" "[I", Cond.fieldLink RX4 40 "CoracleRaceModel$State" "length" "[I", Cond.methodLink RX5 114 yX5_rankOf, Cond.instanceMethod yX5_rankOf, Cond.selects RX5 yX5_rankOf yX5_rankOf]
def wsX5_digest_r3 : List Cond := [Cond.code yX5_rankOf cX5_rankOf 4 (some .int), Cond.methodLink RX5 111 yX5_isAhead, Cond.instanceMethod yX5_isAhead, Cond.selects RX5 yX5_isAhead yX5_isAhead, Cond.code yX5_isAhead cX5_isAhead 3 (some .boolean)]
def wsX5_digest : List Cond := .code yX5_digest cX5_digest 7 (some .long) :: ((wsX5_digest_r1 ++ (wsX5_digest_r2 ++ wsX5_digest_r3)) ++ wsX50 ++ wsX40)
def wsJ9_abs_0f7a4 : List Cond := .code yJ9_abs_0f7a4 cJ9_abs_0f7a4 1 (some .int) :: ([])
def wsJ9_max_7cf53 : List Cond := .code yJ9_max_7cf53 cJ9_max_7cf53 2 (some .int) :: ([])
def wsJ9_min_7cf53 : List Cond := .code yJ9_min_7cf53 cJ9_min_7cf53 2 (some .int) :: ([])
def wsL_setWater : List Cond := .codeWith yL_setWater cL_setWater 5 (some .int) [(0, 10, 13, 13), (0, 10, 17, 15)] :: ([.classLink RL 13 "java/lang/IndexOutOfBoundsException", .classLink RL 15 "java/lang/IllegalArgumentException", .methodLink RL 7 yX3_setWater, .instanceMethod yX3_setWater, .selects RX3 yX3_setWater yX3_setWater, .initialized RX3, .code yX3_setWater cX3_setWater 4 (some .int), .classLink RX3 30 "java/lang/IndexOutOfBoundsException", .initialized "java/lang/IndexOutOfBoundsException", .classLink RX3 37 "java/lang/IllegalArgumentException", .initialized "java/lang/IllegalArgumentException", .fieldLink RX3 10 "CoracleRace" "river" "LCoracleRace$River;", .fieldLink RX3 42 "CoracleRace$River" "water" "[I", .methodLink RX3 26 yX2_isLane, .static yX2_isLane, .initialized RX2, .code yX2_isLane cX2_isLane 1 (some .boolean)] ++ wsX30 ++ wsX20 ++ (vx_atS RX3 34 "java/lang/IndexOutOfBoundsException" ["java/lang/RuntimeException", "java/lang/Exception"]).filter goodWord ++ (vx_atS RX3 41 "java/lang/IllegalArgumentException" ["java/lang/RuntimeException", "java/lang/Exception"]).filter goodWord)
def wsL_weir_r1 : List Cond := [Cond.classLink RL 15 "java/lang/IllegalArgumentException", Cond.classLink RL 20 "java/lang/IllegalStateException", Cond.methodLink RL 17 yX3_weir, Cond.instanceMethod yX3_weir, Cond.selects RX3 yX3_weir yX3_weir, Cond.initialized RX3, Cond.code yX3_weir cX3_weir 3 (some .int), Cond.classLink RX3 37 "java/lang/IllegalArgumentException", Cond.initialized "java/lang/IllegalArgumentException", Cond.classLink RX3 54 "java/lang/IllegalStateException", Cond.initialized "java/lang/IllegalStateException", Cond.fieldLink RX3 10 "CoracleRace" "river" "LCoracleRace$River;", Cond.fieldLink RX3 50 "CoracleRace$River" "weirs" "I", Cond.methodLink RX3 26 yX2_isLane, Cond.static yX2_isLane, Cond.initialized RX2, Cond.code yX2_isLane cX2_isLane 1 (some .boolean), Cond.methodLink RX3 59 yX2_hasWeirAt, Cond.instanceMethod yX2_hasWeirAt, Cond.selects RX2 yX2_hasWeirAt yX2_hasWeirAt, Cond.code yX2_hasWeirAt cX2_hasWeirAt 3 (some .boolean), Cond.fieldLink RX2 19 "CoracleRace$River" "weirs" "I", Cond.fieldLink RX2 13 "CoracleRace$River" "places" "[I", Cond.methodLink RX3 64 yX2_addWeir]
def wsL_weir_r2 : List Cond := [Cond.instanceMethod yX2_addWeir, Cond.selects RX2 yX2_addWeir yX2_addWeir, Cond.code yX2_addWeir cX2_addWeir 3 none, Cond.fieldLink RX2 16 "CoracleRace$River" "gaps" "[I"]
def wsL_weir : List Cond := .codeWith yL_weir cL_weir 5 (some .int) [(0, 10, 13, 15), (0, 10, 17, 20)] :: ((wsL_weir_r1 ++ wsL_weir_r2) ++ wsX30 ++ wsX20 ++ (vx_atS RX3 41 "java/lang/IllegalArgumentException" ["java/lang/RuntimeException", "java/lang/Exception"]).filter goodWord ++ (vx_atS RX3 58 "java/lang/IllegalStateException" ["java/lang/RuntimeException", "java/lang/Exception"]).filter goodWord)
def wsL_launch_r1 : List Cond := [Cond.classLink RL 15 "java/lang/IllegalArgumentException", Cond.classLink RL 20 "java/lang/IllegalStateException", Cond.methodLink RL 22 yX3_launch, Cond.instanceMethod yX3_launch, Cond.selects RX3 yX3_launch yX3_launch, Cond.initialized RX3, Cond.code yX3_launch cX3_launch 3 (some .int), Cond.classLink RX3 37 "java/lang/IllegalArgumentException", Cond.initialized "java/lang/IllegalArgumentException", Cond.classLink RX3 54 "java/lang/IllegalStateException", Cond.initialized "java/lang/IllegalStateException", Cond.fieldLink RX3 19 "CoracleRace" "fleet" "LCoracleRace$Fleet;", Cond.fieldLink RX3 74 "CoracleRace$Fleet" "size" "I", Cond.methodLink RX3 26 yX2_isLane, Cond.static yX2_isLane, Cond.initialized RX2, Cond.code yX2_isLane cX2_isLane 1 (some .boolean), Cond.methodLink RX3 79 yX1_add, Cond.instanceMethod yX1_add, Cond.selects RX1 yX1_add yX1_add, Cond.initialized RX1, Cond.code yX1_add cX1_add 3 (some .int), Cond.fieldLink RX1 15 "CoracleRace$Fleet" "size" "I", Cond.fieldLink RX1 11 "CoracleRace$Fleet" "boats" "[LCoracleRace$Boat;"]
def wsL_launch_r2 : List Cond := [Cond.methodLink RX1 23 yX0_start, Cond.instanceMethod yX0_start, Cond.selects RX0 yX0_start yX0_start, Cond.initialized RX0, Cond.code yX0_start cX0_start 3 none, Cond.fieldLink RX0 23 "CoracleRace$Boat" "lane" "I", Cond.fieldLink RX0 17 "CoracleRace$Boat" "strength" "I", Cond.methodLink RX0 48 yX0_takePattern, Cond.instanceMethod yX0_takePattern, Cond.selects RX0 yX0_takePattern yX0_takePattern, Cond.code yX0_takePattern cX0_takePattern 5 none, Cond.fieldLink RX0 9 "CoracleRace$Boat" "strokes" "[I", Cond.fieldLink RX0 13 "CoracleRace$Boat" "length" "I"]
def wsL_launch : List Cond := .codeWith yL_launch cL_launch 5 (some .int) [(0, 10, 13, 15), (0, 10, 17, 20)] :: ((wsL_launch_r1 ++ wsL_launch_r2) ++ wsX30 ++ wsX10 ++ wsX00 ++ (vx_atS RX3 41 "java/lang/IllegalArgumentException" ["java/lang/RuntimeException", "java/lang/Exception"]).filter goodWord ++ (vx_atS RX3 58 "java/lang/IllegalStateException" ["java/lang/RuntimeException", "java/lang/Exception"]).filter goodWord)
def wsL_paddle_r1 : List Cond := [Cond.classLink RL 13 "java/lang/IndexOutOfBoundsException", Cond.classLink RL 15 "java/lang/IllegalArgumentException", Cond.methodLink RL 25 yX3_paddle, Cond.instanceMethod yX3_paddle, Cond.selects RX3 yX3_paddle yX3_paddle, Cond.initialized RX3, Cond.code yX3_paddle cX3_paddle 5 (some .int), Cond.classLink RX3 30 "java/lang/IndexOutOfBoundsException", Cond.initialized "java/lang/IndexOutOfBoundsException", Cond.classLink RX3 37 "java/lang/IllegalArgumentException", Cond.initialized "java/lang/IllegalArgumentException", Cond.fieldLink RX3 19 "CoracleRace" "fleet" "LCoracleRace$Fleet;", Cond.fieldLink RX3 96 "CoracleRace$Fleet" "boats" "[LCoracleRace$Boat;", Cond.fieldLink RX3 100 "CoracleRace$Boat" "length" "I", Cond.methodLink RX3 83 yX1_has, Cond.instanceMethod yX1_has, Cond.selects RX1 yX1_has yX1_has, Cond.initialized RX1, Cond.code yX1_has cX1_has 2 (some .boolean), Cond.fieldLink RX1 15 "CoracleRace$Fleet" "size" "I", Cond.methodLink RX3 90 yX3_isPattern, Cond.static yX3_isPattern, Cond.code yX3_isPattern cX3_isPattern 4 (some .boolean), Cond.methodLink RX3 103 yX0_takePattern]
def wsL_paddle_r2 : List Cond := [Cond.instanceMethod yX0_takePattern, Cond.selects RX0 yX0_takePattern yX0_takePattern, Cond.initialized RX0, Cond.code yX0_takePattern cX0_takePattern 5 none, Cond.fieldLink RX0 9 "CoracleRace$Boat" "strokes" "[I", Cond.fieldLink RX0 13 "CoracleRace$Boat" "length" "I"]
def wsL_paddle : List Cond := .codeWith yL_paddle cL_paddle 6 (some .int) [(0, 12, 15, 13), (0, 12, 19, 15)] :: ((wsL_paddle_r1 ++ wsL_paddle_r2) ++ wsX30 ++ wsX10 ++ wsX00 ++ (vx_atS RX3 34 "java/lang/IndexOutOfBoundsException" ["java/lang/RuntimeException", "java/lang/Exception"]).filter goodWord ++ (vx_atS RX3 41 "java/lang/IllegalArgumentException" ["java/lang/RuntimeException", "java/lang/Exception"]).filter goodWord)
def wsL_tar_r1 : List Cond := [Cond.classLink RL 13 "java/lang/IndexOutOfBoundsException", Cond.classLink RL 20 "java/lang/IllegalStateException", Cond.methodLink RL 29 yX3_tar, Cond.instanceMethod yX3_tar, Cond.selects RX3 yX3_tar yX3_tar, Cond.initialized RX3, Cond.code yX3_tar cX3_tar 2 (some .int), Cond.classLink RX3 30 "java/lang/IndexOutOfBoundsException", Cond.initialized "java/lang/IndexOutOfBoundsException", Cond.classLink RX3 54 "java/lang/IllegalStateException", Cond.initialized "java/lang/IllegalStateException", Cond.fieldLink RX3 19 "CoracleRace" "fleet" "LCoracleRace$Fleet;", Cond.fieldLink RX3 96 "CoracleRace$Fleet" "boats" "[LCoracleRace$Boat;", Cond.methodLink RX3 83 yX1_has, Cond.instanceMethod yX1_has, Cond.selects RX1 yX1_has yX1_has, Cond.initialized RX1, Cond.code yX1_has cX1_has 2 (some .boolean), Cond.fieldLink RX1 15 "CoracleRace$Fleet" "size" "I", Cond.methodLink RX3 106 yX0_isIn, Cond.instanceMethod yX0_isIn, Cond.selects RX0 yX0_isIn yX0_isIn, Cond.initialized RX0, Cond.code yX0_isIn cX0_isIn 1 (some .boolean)]
def wsL_tar_r2 : List Cond := [Cond.fieldLink RX0 35 "CoracleRace$Boat" "in" "Z", Cond.methodLink RX3 112 yX0_dryOut, Cond.instanceMethod yX0_dryOut, Cond.selects RX0 yX0_dryOut yX0_dryOut, Cond.code yX0_dryOut cX0_dryOut 2 (some .int), Cond.fieldLink RX0 29 "CoracleRace$Boat" "soaked" "I", Cond.fieldLink RX0 32 "CoracleRace$Boat" "fouls" "I"]
def wsL_tar : List Cond := .codeWith yL_tar cL_tar 4 (some .int) [(0, 9, 12, 13), (0, 9, 15, 20)] :: ((wsL_tar_r1 ++ wsL_tar_r2) ++ wsX30 ++ wsX10 ++ wsX00 ++ (vx_atS RX3 34 "java/lang/IndexOutOfBoundsException" ["java/lang/RuntimeException", "java/lang/Exception"]).filter goodWord ++ (vx_atS RX3 58 "java/lang/IllegalStateException" ["java/lang/RuntimeException", "java/lang/Exception"]).filter goodWord)
def wsL_boat_r1 : List Cond := [Cond.classLink RL 13 "java/lang/IndexOutOfBoundsException", Cond.methodLink RL 33 yX3_boat, Cond.instanceMethod yX3_boat, Cond.selects RX3 yX3_boat yX3_boat, Cond.initialized RX3, Cond.code yX3_boat cX3_boat 3 (some .int), Cond.classLink RX3 30 "java/lang/IndexOutOfBoundsException", Cond.initialized "java/lang/IndexOutOfBoundsException", Cond.fieldLink RX3 19 "CoracleRace" "fleet" "LCoracleRace$Fleet;", Cond.fieldLink RX3 96 "CoracleRace$Fleet" "boats" "[LCoracleRace$Boat;", Cond.methodLink RX3 83 yX1_has, Cond.instanceMethod yX1_has, Cond.selects RX1 yX1_has yX1_has, Cond.initialized RX1, Cond.code yX1_has cX1_has 2 (some .boolean), Cond.fieldLink RX1 15 "CoracleRace$Fleet" "size" "I", Cond.methodLink RX3 118 yX0_fact, Cond.instanceMethod yX0_fact, Cond.selects RX0 yX0_fact yX0_fact, Cond.initialized RX0, Cond.code yX0_fact cX0_fact 2 (some .int), Cond.fieldLink RX0 20 "CoracleRace$Boat" "place" "I", Cond.fieldLink RX0 23 "CoracleRace$Boat" "lane" "I", Cond.fieldLink RX0 26 "CoracleRace$Boat" "heading" "I"]
def wsL_boat_r2 : List Cond := [Cond.fieldLink RX0 29 "CoracleRace$Boat" "soaked" "I", Cond.fieldLink RX0 32 "CoracleRace$Boat" "fouls" "I", Cond.fieldLink RX0 35 "CoracleRace$Boat" "in" "Z", Cond.fieldLink RX0 42 "CoracleRace$Boat" "spins" "I", Cond.fieldLink RX0 45 "CoracleRace$Boat" "stops" "I", Cond.methodLink RX0 58 yX0_time, Cond.instanceMethod yX0_time, Cond.selects RX0 yX0_time yX0_time, Cond.code yX0_time cX0_time 1 (some .int), Cond.fieldLink RX0 39 "CoracleRace$Boat" "tickIn" "I"]
def wsL_boat : List Cond := .codeWith yL_boat cL_boat 5 (some .int) [(0, 10, 13, 13)] :: ((wsL_boat_r1 ++ wsL_boat_r2) ++ wsX30 ++ wsX10 ++ wsX00 ++ (vx_atS RX3 34 "java/lang/IndexOutOfBoundsException" ["java/lang/RuntimeException", "java/lang/Exception"]).filter goodWord)
def wsL_count_r1 : List Cond := [Cond.classLink RL 13 "java/lang/IndexOutOfBoundsException", Cond.methodLink RL 36 yX3_count, Cond.instanceMethod yX3_count, Cond.selects RX3 yX3_count yX3_count, Cond.initialized RX3, Cond.code yX3_count cX3_count 2 (some .int), Cond.classLink RX3 30 "java/lang/IndexOutOfBoundsException", Cond.initialized "java/lang/IndexOutOfBoundsException", Cond.fieldLink RX3 19 "CoracleRace" "fleet" "LCoracleRace$Fleet;", Cond.methodLink RX3 124 yX3_countIn, Cond.instanceMethod yX3_countIn, Cond.selects RX3 yX3_countIn yX3_countIn, Cond.code yX3_countIn cX3_countIn 3 (some .int), Cond.fieldLink RX3 150 "CoracleRace$Fleet" "tick" "I", Cond.fieldLink RX3 74 "CoracleRace$Fleet" "size" "I", Cond.fieldLink RX3 10 "CoracleRace" "river" "LCoracleRace$River;", Cond.fieldLink RX3 50 "CoracleRace$River" "weirs" "I", Cond.methodLink RX3 139 yX1_boatsIn, Cond.instanceMethod yX1_boatsIn, Cond.selects RX1 yX1_boatsIn yX1_boatsIn, Cond.initialized RX1, Cond.code yX1_boatsIn cX1_boatsIn 3 (some .int), Cond.fieldLink RX1 15 "CoracleRace$Fleet" "size" "I", Cond.fieldLink RX1 11 "CoracleRace$Fleet" "boats" "[LCoracleRace$Boat;"]
def wsL_count_r2 : List Cond := [Cond.methodLink RX1 35 yX0_isIn, Cond.instanceMethod yX0_isIn, Cond.selects RX0 yX0_isIn yX0_isIn, Cond.initialized RX0, Cond.code yX0_isIn cX0_isIn 1 (some .boolean), Cond.fieldLink RX0 35 "CoracleRace$Boat" "in" "Z", Cond.methodLink RX3 187 yX1_foulsAdded, Cond.instanceMethod yX1_foulsAdded, Cond.selects RX1 yX1_foulsAdded yX1_foulsAdded, Cond.code yX1_foulsAdded cX1_foulsAdded 3 (some .int), Cond.fieldLink RX1 39 "CoracleRace$Boat" "fouls" "I", Cond.methodLink RX3 190 yX1_leader, Cond.instanceMethod yX1_leader, Cond.selects RX1 yX1_leader yX1_leader, Cond.code yX1_leader cX1_leader 4 (some .int), Cond.fieldLink RX1 42 "CoracleRace$Boat" "place" "I", Cond.methodLink RX3 193 yX1_winner, Cond.instanceMethod yX1_winner, Cond.selects RX1 yX1_winner yX1_winner, Cond.code yX1_winner cX1_winner 4 (some .int), Cond.methodLink RX1 45 yX0_time, Cond.instanceMethod yX0_time, Cond.selects RX0 yX0_time yX0_time, Cond.code yX0_time cX0_time 1 (some .int)]
def wsL_count_r3 : List Cond := [Cond.fieldLink RX0 39 "CoracleRace$Boat" "tickIn" "I", Cond.fieldLink RX0 32 "CoracleRace$Boat" "fouls" "I"]
def wsL_count : List Cond := .codeWith yL_count cL_count 4 (some .int) [(0, 9, 12, 13)] :: ((wsL_count_r1 ++ (wsL_count_r2 ++ wsL_count_r3)) ++ wsX30 ++ wsX10 ++ wsX20 ++ wsX00 ++ (vx_atS RX3 34 "java/lang/IndexOutOfBoundsException" ["java/lang/RuntimeException", "java/lang/Exception"]).filter goodWord)
def wsL_next : List Cond := .codeWith yL_next cL_next 4 (some .int) [(0, 9, 12, 15)] :: ([.classLink RL 15 "java/lang/IllegalArgumentException", .methodLink RL 39 yX3_next, .instanceMethod yX3_next, .selects RX3 yX3_next yX3_next, .initialized RX3, .code yX3_next cX3_next 2 (some .int), .classLink RX3 37 "java/lang/IllegalArgumentException", .initialized "java/lang/IllegalArgumentException", .fieldLink RX3 10 "CoracleRace" "river" "LCoracleRace$River;", .methodLink RX3 130 yX2_firstWeirBeyond, .instanceMethod yX2_firstWeirBeyond, .selects RX2 yX2_firstWeirBeyond yX2_firstWeirBeyond, .initialized RX2, .code yX2_firstWeirBeyond cX2_firstWeirBeyond 4 (some .int), .fieldLink RX2 19 "CoracleRace$River" "weirs" "I", .fieldLink RX2 13 "CoracleRace$River" "places" "[I"] ++ wsX30 ++ wsX20 ++ (vx_atS RX3 41 "java/lang/IllegalArgumentException" ["java/lang/RuntimeException", "java/lang/Exception"]).filter goodWord)
def wsL_rank_r1 : List Cond := [Cond.classLink RL 13 "java/lang/IndexOutOfBoundsException", Cond.methodLink RL 42 yX3_rank, Cond.instanceMethod yX3_rank, Cond.selects RX3 yX3_rank yX3_rank, Cond.initialized RX3, Cond.code yX3_rank cX3_rank 2 (some .int), Cond.classLink RX3 30 "java/lang/IndexOutOfBoundsException", Cond.initialized "java/lang/IndexOutOfBoundsException", Cond.fieldLink RX3 19 "CoracleRace" "fleet" "LCoracleRace$Fleet;", Cond.fieldLink RX3 96 "CoracleRace$Fleet" "boats" "[LCoracleRace$Boat;", Cond.methodLink RX3 83 yX1_has, Cond.instanceMethod yX1_has, Cond.selects RX1 yX1_has yX1_has, Cond.initialized RX1, Cond.code yX1_has cX1_has 2 (some .boolean), Cond.fieldLink RX1 15 "CoracleRace$Fleet" "size" "I", Cond.methodLink RX3 133 yX1_rankOf, Cond.instanceMethod yX1_rankOf, Cond.selects RX1 yX1_rankOf yX1_rankOf, Cond.code yX1_rankOf cX1_rankOf 4 (some .int), Cond.fieldLink RX1 11 "CoracleRace$Fleet" "boats" "[LCoracleRace$Boat;", Cond.methodLink RX1 49 yX0_isAheadOf, Cond.instanceMethod yX0_isAheadOf, Cond.selects RX0 yX0_isAheadOf yX0_isAheadOf]
def wsL_rank_r2 : List Cond := [Cond.initialized RX0, Cond.code yX0_isAheadOf cX0_isAheadOf 2 (some .boolean), Cond.fieldLink RX0 35 "CoracleRace$Boat" "in" "Z", Cond.fieldLink RX0 20 "CoracleRace$Boat" "place" "I", Cond.methodLink RX0 58 yX0_time, Cond.instanceMethod yX0_time, Cond.selects RX0 yX0_time yX0_time, Cond.code yX0_time cX0_time 1 (some .int), Cond.fieldLink RX0 39 "CoracleRace$Boat" "tickIn" "I", Cond.fieldLink RX0 32 "CoracleRace$Boat" "fouls" "I"]
def wsL_rank : List Cond := .codeWith yL_rank cL_rank 4 (some .int) [(0, 9, 12, 13)] :: ((wsL_rank_r1 ++ wsL_rank_r2) ++ wsX30 ++ wsX10 ++ wsX00 ++ (vx_atS RX3 34 "java/lang/IndexOutOfBoundsException" ["java/lang/RuntimeException", "java/lang/Exception"]).filter goodWord)
def wsL_go_r1 : List Cond := [Cond.classLink RL 15 "java/lang/IllegalArgumentException", Cond.methodLink RL 45 yX3_go, Cond.instanceMethod yX3_go, Cond.selects RX3 yX3_go yX3_go, Cond.initialized RX3, Cond.code yX3_go cX3_go 3 (some .int), Cond.classLink RX3 37 "java/lang/IllegalArgumentException", Cond.initialized "java/lang/IllegalArgumentException", Cond.fieldLink RX3 19 "CoracleRace" "fleet" "LCoracleRace$Fleet;", Cond.fieldLink RX3 10 "CoracleRace" "river" "LCoracleRace$River;", Cond.methodLink RX3 139 yX1_boatsIn, Cond.instanceMethod yX1_boatsIn, Cond.selects RX1 yX1_boatsIn yX1_boatsIn, Cond.initialized RX1, Cond.code yX1_boatsIn cX1_boatsIn 3 (some .int), Cond.fieldLink RX1 15 "CoracleRace$Fleet" "size" "I", Cond.fieldLink RX1 11 "CoracleRace$Fleet" "boats" "[LCoracleRace$Boat;", Cond.methodLink RX1 35 yX0_isIn, Cond.instanceMethod yX0_isIn, Cond.selects RX0 yX0_isIn yX0_isIn, Cond.initialized RX0, Cond.code yX0_isIn cX0_isIn 1 (some .boolean), Cond.fieldLink RX0 35 "CoracleRace$Boat" "in" "Z", Cond.methodLink RX3 142 yX1_letTicksGoBy]
def wsL_go_r2 : List Cond := [Cond.instanceMethod yX1_letTicksGoBy, Cond.selects RX1 yX1_letTicksGoBy yX1_letTicksGoBy, Cond.code yX1_letTicksGoBy cX1_letTicksGoBy 5 none, Cond.fieldLink RX1 19 "CoracleRace$Fleet" "tick" "I", Cond.methodLink RX1 31 yX0_letTickGoBy, Cond.instanceMethod yX0_letTickGoBy, Cond.selects RX0 yX0_letTickGoBy yX0_letTickGoBy, Cond.code yX0_letTickGoBy cX0_letTickGoBy 4 none, Cond.fieldLink RX0 20 "CoracleRace$Boat" "place" "I", Cond.fieldLink RX0 39 "CoracleRace$Boat" "tickIn" "I", Cond.methodLink RX0 62 yX0_strokeIn, Cond.instanceMethod yX0_strokeIn, Cond.selects RX0 yX0_strokeIn yX0_strokeIn, Cond.code yX0_strokeIn cX0_strokeIn 2 (some .int), Cond.fieldLink RX0 13 "CoracleRace$Boat" "length" "I", Cond.fieldLink RX0 9 "CoracleRace$Boat" "strokes" "[I", Cond.methodLink RX0 82 yJ9_floorMod_7cf53, Cond.static yJ9_floorMod_7cf53, Cond.initialized RJ9, Cond.code yJ9_floorMod_7cf53 cJ9_floorMod_7cf53 3 (some .int), Cond.methodLink RX0 66 yX0_forceOf, Cond.instanceMethod yX0_forceOf, Cond.selects RX0 yX0_forceOf yX0_forceOf, Cond.code yX0_forceOf cX0_forceOf 2 (some .int)]
def wsL_go_r3 : List Cond := [Cond.fieldLink RX0 26 "CoracleRace$Boat" "heading" "I", Cond.fieldLink RX0 42 "CoracleRace$Boat" "spins" "I", Cond.fieldLink RX0 29 "CoracleRace$Boat" "soaked" "I", Cond.methodLink RX0 91 Lib.Math.max.name, Cond.static Lib.Math.max.name, Cond.initialized "java/lang/Math", Cond.code Lib.Math.max.name Lib.Math.max.code 2 (some .int), Cond.methodLink RX0 88 yX0_pushOf, Cond.instanceMethod yX0_pushOf, Cond.selects RX0 yX0_pushOf yX0_pushOf, Cond.code yX0_pushOf cX0_pushOf 2 (some .int), Cond.fieldLink RX0 17 "CoracleRace$Boat" "strength" "I", Cond.methodLink RX0 69 yX0_drift, Cond.instanceMethod yX0_drift, Cond.selects RX0 yX0_drift yX0_drift, Cond.code yX0_drift cX0_drift 2 none, Cond.fieldLink RX0 23 "CoracleRace$Boat" "lane" "I", Cond.fieldLink RX0 32 "CoracleRace$Boat" "fouls" "I", Cond.methodLink RX0 94 yX2_isLane, Cond.static yX2_isLane, Cond.initialized RX2, Cond.code yX2_isLane cX2_isLane 1 (some .boolean), Cond.methodLink RX0 72 yX0_advance, Cond.instanceMethod yX0_advance]
def wsL_go_r4 : List Cond := [Cond.selects RX0 yX0_advance yX0_advance, Cond.code yX0_advance cX0_advance 5 none, Cond.methodLink RX0 98 Lib.Math.abs.name, Cond.static Lib.Math.abs.name, Cond.code Lib.Math.abs.name Lib.Math.abs.code 1 (some .int), Cond.fieldLink RX0 101 "CoracleRace$River" "water" "[I", Cond.methodLink RX0 108 Lib.Math.min.name, Cond.static Lib.Math.min.name, Cond.code Lib.Math.min.name Lib.Math.min.code 2 (some .int), Cond.fieldLink RX0 45 "CoracleRace$Boat" "stops" "I", Cond.methodLink RX0 104 yX2_firstStop, Cond.instanceMethod yX2_firstStop, Cond.selects RX2 yX2_firstStop yX2_firstStop, Cond.code yX2_firstStop cX2_firstStop 7 (some .int), Cond.fieldLink RX2 19 "CoracleRace$River" "weirs" "I", Cond.fieldLink RX2 13 "CoracleRace$River" "places" "[I", Cond.fieldLink RX2 16 "CoracleRace$River" "gaps" "[I", Cond.methodLink RX0 76 yX0_soak, Cond.instanceMethod yX0_soak, Cond.selects RX0 yX0_soak yX0_soak, Cond.code yX0_soak cX0_soak 2 none]
def wsL_go : List Cond := .codeWith yL_go cL_go 4 (some .int) [(0, 9, 12, 15)] :: ((wsL_go_r1 ++ (wsL_go_r2 ++ (wsL_go_r3 ++ wsL_go_r4))) ++ wsX30 ++ wsX10 ++ wsX00 ++ wsX20 ++ (vx_atS RX3 41 "java/lang/IllegalArgumentException" ["java/lang/RuntimeException", "java/lang/Exception"]).filter goodWord)
def wsL_arrives_r1 : List Cond := [Cond.classLink RL 13 "java/lang/IndexOutOfBoundsException", Cond.methodLink RL 48 yX3_arrives, Cond.instanceMethod yX3_arrives, Cond.selects RX3 yX3_arrives yX3_arrives, Cond.initialized RX3, Cond.code yX3_arrives cX3_arrives 4 (some .int), Cond.classLink RX3 30 "java/lang/IndexOutOfBoundsException", Cond.initialized "java/lang/IndexOutOfBoundsException", Cond.fieldLink RX3 19 "CoracleRace" "fleet" "LCoracleRace$Fleet;", Cond.fieldLink RX3 23 "CoracleRace" "trial" "LCoracleRace$Fleet;", Cond.fieldLink RX3 96 "CoracleRace$Fleet" "boats" "[LCoracleRace$Boat;", Cond.fieldLink RX3 10 "CoracleRace" "river" "LCoracleRace$River;", Cond.fieldLink RX3 150 "CoracleRace$Fleet" "tick" "I", Cond.methodLink RX3 83 yX1_has, Cond.instanceMethod yX1_has, Cond.selects RX1 yX1_has yX1_has, Cond.initialized RX1, Cond.code yX1_has cX1_has 2 (some .boolean), Cond.fieldLink RX1 15 "CoracleRace$Fleet" "size" "I", Cond.methodLink RX3 146 yX0_copyFrom, Cond.instanceMethod yX0_copyFrom, Cond.selects RX0 yX0_copyFrom yX0_copyFrom, Cond.initialized RX0, Cond.code yX0_copyFrom cX0_copyFrom 2 none]
def wsL_arrives_r2 : List Cond := [Cond.fieldLink RX0 9 "CoracleRace$Boat" "strokes" "[I", Cond.methodLink RX0 52 arraycopyName, Cond.native arraycopyName, Cond.static arraycopyName, Cond.initialized "java/lang/System", Cond.fieldLink RX0 13 "CoracleRace$Boat" "length" "I", Cond.fieldLink RX0 17 "CoracleRace$Boat" "strength" "I", Cond.fieldLink RX0 20 "CoracleRace$Boat" "place" "I", Cond.fieldLink RX0 23 "CoracleRace$Boat" "lane" "I", Cond.fieldLink RX0 26 "CoracleRace$Boat" "heading" "I", Cond.fieldLink RX0 29 "CoracleRace$Boat" "soaked" "I", Cond.fieldLink RX0 32 "CoracleRace$Boat" "fouls" "I", Cond.fieldLink RX0 35 "CoracleRace$Boat" "in" "Z", Cond.fieldLink RX0 39 "CoracleRace$Boat" "tickIn" "I", Cond.fieldLink RX0 42 "CoracleRace$Boat" "spins" "I", Cond.fieldLink RX0 45 "CoracleRace$Boat" "stops" "I", Cond.methodLink RX3 106 yX0_isIn, Cond.instanceMethod yX0_isIn, Cond.selects RX0 yX0_isIn yX0_isIn, Cond.code yX0_isIn cX0_isIn 1 (some .boolean), Cond.methodLink RX3 153 yX0_letTickGoBy, Cond.instanceMethod yX0_letTickGoBy, Cond.selects RX0 yX0_letTickGoBy yX0_letTickGoBy, Cond.code yX0_letTickGoBy cX0_letTickGoBy 4 none]
def wsL_arrives_r3 : List Cond := [Cond.methodLink RX0 62 yX0_strokeIn, Cond.instanceMethod yX0_strokeIn, Cond.selects RX0 yX0_strokeIn yX0_strokeIn, Cond.code yX0_strokeIn cX0_strokeIn 2 (some .int), Cond.methodLink RX0 82 yJ9_floorMod_7cf53, Cond.static yJ9_floorMod_7cf53, Cond.initialized RJ9, Cond.code yJ9_floorMod_7cf53 cJ9_floorMod_7cf53 3 (some .int), Cond.methodLink RX0 66 yX0_forceOf, Cond.instanceMethod yX0_forceOf, Cond.selects RX0 yX0_forceOf yX0_forceOf, Cond.code yX0_forceOf cX0_forceOf 2 (some .int), Cond.methodLink RX0 91 Lib.Math.max.name, Cond.static Lib.Math.max.name, Cond.initialized "java/lang/Math", Cond.code Lib.Math.max.name Lib.Math.max.code 2 (some .int), Cond.methodLink RX0 88 yX0_pushOf, Cond.instanceMethod yX0_pushOf, Cond.selects RX0 yX0_pushOf yX0_pushOf, Cond.code yX0_pushOf cX0_pushOf 2 (some .int), Cond.methodLink RX0 69 yX0_drift, Cond.instanceMethod yX0_drift, Cond.selects RX0 yX0_drift yX0_drift, Cond.code yX0_drift cX0_drift 2 none]
def wsL_arrives_r4 : List Cond := [Cond.methodLink RX0 94 yX2_isLane, Cond.static yX2_isLane, Cond.initialized RX2, Cond.code yX2_isLane cX2_isLane 1 (some .boolean), Cond.methodLink RX0 72 yX0_advance, Cond.instanceMethod yX0_advance, Cond.selects RX0 yX0_advance yX0_advance, Cond.code yX0_advance cX0_advance 5 none, Cond.methodLink RX0 98 Lib.Math.abs.name, Cond.static Lib.Math.abs.name, Cond.code Lib.Math.abs.name Lib.Math.abs.code 1 (some .int), Cond.fieldLink RX0 101 "CoracleRace$River" "water" "[I", Cond.methodLink RX0 108 Lib.Math.min.name, Cond.static Lib.Math.min.name, Cond.code Lib.Math.min.name Lib.Math.min.code 2 (some .int), Cond.methodLink RX0 104 yX2_firstStop, Cond.instanceMethod yX2_firstStop, Cond.selects RX2 yX2_firstStop yX2_firstStop, Cond.code yX2_firstStop cX2_firstStop 7 (some .int), Cond.fieldLink RX2 19 "CoracleRace$River" "weirs" "I", Cond.fieldLink RX2 13 "CoracleRace$River" "places" "[I", Cond.fieldLink RX2 16 "CoracleRace$River" "gaps" "[I", Cond.methodLink RX0 76 yX0_soak, Cond.instanceMethod yX0_soak]
def wsL_arrives_r5 : List Cond := [Cond.selects RX0 yX0_soak yX0_soak, Cond.code yX0_soak cX0_soak 2 none]
def wsL_arrives : List Cond := .codeWith yL_arrives cL_arrives 4 (some .int) [(0, 9, 12, 13)] :: ((wsL_arrives_r1 ++ (wsL_arrives_r2 ++ (wsL_arrives_r3 ++ (wsL_arrives_r4 ++ wsL_arrives_r5)))) ++ wsX30 ++ wsX10 ++ wsX00 ++ wsX20 ++ (vx_atS RX3 34 "java/lang/IndexOutOfBoundsException" ["java/lang/RuntimeException", "java/lang/Exception"]).filter goodWord)
def wsL_foresee_r1 : List Cond := [Cond.classLink RL 15 "java/lang/IllegalArgumentException", Cond.classLink RL 13 "java/lang/IndexOutOfBoundsException", Cond.methodLink RL 51 yX3_foresee, Cond.instanceMethod yX3_foresee, Cond.selects RX3 yX3_foresee yX3_foresee, Cond.initialized RX3, Cond.code yX3_foresee cX3_foresee 3 (some .int), Cond.classLink RX3 37 "java/lang/IllegalArgumentException", Cond.initialized "java/lang/IllegalArgumentException", Cond.classLink RX3 30 "java/lang/IndexOutOfBoundsException", Cond.initialized "java/lang/IndexOutOfBoundsException", Cond.fieldLink RX3 23 "CoracleRace" "trial" "LCoracleRace$Fleet;", Cond.fieldLink RX3 19 "CoracleRace" "fleet" "LCoracleRace$Fleet;", Cond.fieldLink RX3 10 "CoracleRace" "river" "LCoracleRace$River;", Cond.methodLink RX3 158 yX1_copyFrom, Cond.instanceMethod yX1_copyFrom, Cond.selects RX1 yX1_copyFrom yX1_copyFrom, Cond.initialized RX1, Cond.code yX1_copyFrom cX1_copyFrom 3 none, Cond.fieldLink RX1 15 "CoracleRace$Fleet" "size" "I", Cond.fieldLink RX1 19 "CoracleRace$Fleet" "tick" "I", Cond.fieldLink RX1 11 "CoracleRace$Fleet" "boats" "[LCoracleRace$Boat;", Cond.methodLink RX1 27 yX0_copyFrom, Cond.instanceMethod yX0_copyFrom]
def wsL_foresee_r2 : List Cond := [Cond.selects RX0 yX0_copyFrom yX0_copyFrom, Cond.initialized RX0, Cond.code yX0_copyFrom cX0_copyFrom 2 none, Cond.fieldLink RX0 9 "CoracleRace$Boat" "strokes" "[I", Cond.methodLink RX0 52 arraycopyName, Cond.native arraycopyName, Cond.static arraycopyName, Cond.initialized "java/lang/System", Cond.fieldLink RX0 13 "CoracleRace$Boat" "length" "I", Cond.fieldLink RX0 17 "CoracleRace$Boat" "strength" "I", Cond.fieldLink RX0 20 "CoracleRace$Boat" "place" "I", Cond.fieldLink RX0 23 "CoracleRace$Boat" "lane" "I", Cond.fieldLink RX0 26 "CoracleRace$Boat" "heading" "I", Cond.fieldLink RX0 29 "CoracleRace$Boat" "soaked" "I", Cond.fieldLink RX0 32 "CoracleRace$Boat" "fouls" "I", Cond.fieldLink RX0 35 "CoracleRace$Boat" "in" "Z", Cond.fieldLink RX0 39 "CoracleRace$Boat" "tickIn" "I", Cond.fieldLink RX0 42 "CoracleRace$Boat" "spins" "I", Cond.fieldLink RX0 45 "CoracleRace$Boat" "stops" "I", Cond.methodLink RX3 142 yX1_letTicksGoBy, Cond.instanceMethod yX1_letTicksGoBy, Cond.selects RX1 yX1_letTicksGoBy yX1_letTicksGoBy, Cond.code yX1_letTicksGoBy cX1_letTicksGoBy 5 none, Cond.methodLink RX1 31 yX0_letTickGoBy]
def wsL_foresee_r3 : List Cond := [Cond.instanceMethod yX0_letTickGoBy, Cond.selects RX0 yX0_letTickGoBy yX0_letTickGoBy, Cond.code yX0_letTickGoBy cX0_letTickGoBy 4 none, Cond.methodLink RX0 62 yX0_strokeIn, Cond.instanceMethod yX0_strokeIn, Cond.selects RX0 yX0_strokeIn yX0_strokeIn, Cond.code yX0_strokeIn cX0_strokeIn 2 (some .int), Cond.methodLink RX0 82 yJ9_floorMod_7cf53, Cond.static yJ9_floorMod_7cf53, Cond.initialized RJ9, Cond.code yJ9_floorMod_7cf53 cJ9_floorMod_7cf53 3 (some .int), Cond.methodLink RX0 66 yX0_forceOf, Cond.instanceMethod yX0_forceOf, Cond.selects RX0 yX0_forceOf yX0_forceOf, Cond.code yX0_forceOf cX0_forceOf 2 (some .int), Cond.methodLink RX0 91 Lib.Math.max.name, Cond.static Lib.Math.max.name, Cond.initialized "java/lang/Math", Cond.code Lib.Math.max.name Lib.Math.max.code 2 (some .int), Cond.methodLink RX0 88 yX0_pushOf, Cond.instanceMethod yX0_pushOf, Cond.selects RX0 yX0_pushOf yX0_pushOf, Cond.code yX0_pushOf cX0_pushOf 2 (some .int), Cond.methodLink RX0 69 yX0_drift]
def wsL_foresee_r4 : List Cond := [Cond.instanceMethod yX0_drift, Cond.selects RX0 yX0_drift yX0_drift, Cond.code yX0_drift cX0_drift 2 none, Cond.methodLink RX0 94 yX2_isLane, Cond.static yX2_isLane, Cond.initialized RX2, Cond.code yX2_isLane cX2_isLane 1 (some .boolean), Cond.methodLink RX0 72 yX0_advance, Cond.instanceMethod yX0_advance, Cond.selects RX0 yX0_advance yX0_advance, Cond.code yX0_advance cX0_advance 5 none, Cond.methodLink RX0 98 Lib.Math.abs.name, Cond.static Lib.Math.abs.name, Cond.code Lib.Math.abs.name Lib.Math.abs.code 1 (some .int), Cond.fieldLink RX0 101 "CoracleRace$River" "water" "[I", Cond.methodLink RX0 108 Lib.Math.min.name, Cond.static Lib.Math.min.name, Cond.code Lib.Math.min.name Lib.Math.min.code 2 (some .int), Cond.methodLink RX0 104 yX2_firstStop, Cond.instanceMethod yX2_firstStop, Cond.selects RX2 yX2_firstStop yX2_firstStop, Cond.code yX2_firstStop cX2_firstStop 7 (some .int), Cond.fieldLink RX2 19 "CoracleRace$River" "weirs" "I", Cond.fieldLink RX2 13 "CoracleRace$River" "places" "[I"]
def wsL_foresee_r5 : List Cond := [Cond.fieldLink RX2 16 "CoracleRace$River" "gaps" "[I", Cond.methodLink RX0 76 yX0_soak, Cond.instanceMethod yX0_soak, Cond.selects RX0 yX0_soak yX0_soak, Cond.code yX0_soak cX0_soak 2 none, Cond.methodLink RX3 124 yX3_countIn, Cond.instanceMethod yX3_countIn, Cond.selects RX3 yX3_countIn yX3_countIn, Cond.code yX3_countIn cX3_countIn 3 (some .int), Cond.fieldLink RX3 150 "CoracleRace$Fleet" "tick" "I", Cond.fieldLink RX3 74 "CoracleRace$Fleet" "size" "I", Cond.fieldLink RX3 50 "CoracleRace$River" "weirs" "I", Cond.methodLink RX3 139 yX1_boatsIn, Cond.instanceMethod yX1_boatsIn, Cond.selects RX1 yX1_boatsIn yX1_boatsIn, Cond.code yX1_boatsIn cX1_boatsIn 3 (some .int), Cond.methodLink RX1 35 yX0_isIn, Cond.instanceMethod yX0_isIn, Cond.selects RX0 yX0_isIn yX0_isIn, Cond.code yX0_isIn cX0_isIn 1 (some .boolean), Cond.methodLink RX3 187 yX1_foulsAdded, Cond.instanceMethod yX1_foulsAdded, Cond.selects RX1 yX1_foulsAdded yX1_foulsAdded, Cond.code yX1_foulsAdded cX1_foulsAdded 3 (some .int)]
def wsL_foresee_r6 : List Cond := [Cond.fieldLink RX1 39 "CoracleRace$Boat" "fouls" "I", Cond.methodLink RX3 190 yX1_leader, Cond.instanceMethod yX1_leader, Cond.selects RX1 yX1_leader yX1_leader, Cond.code yX1_leader cX1_leader 4 (some .int), Cond.fieldLink RX1 42 "CoracleRace$Boat" "place" "I", Cond.methodLink RX3 193 yX1_winner, Cond.instanceMethod yX1_winner, Cond.selects RX1 yX1_winner yX1_winner, Cond.code yX1_winner cX1_winner 4 (some .int), Cond.methodLink RX1 45 yX0_time, Cond.instanceMethod yX0_time, Cond.selects RX0 yX0_time yX0_time, Cond.code yX0_time cX0_time 1 (some .int)]
def wsL_foresee : List Cond := .codeWith yL_foresee cL_foresee 5 (some .int) [(0, 10, 13, 15), (0, 10, 17, 13)] :: ((wsL_foresee_r1 ++ (wsL_foresee_r2 ++ (wsL_foresee_r3 ++ (wsL_foresee_r4 ++ (wsL_foresee_r5 ++ wsL_foresee_r6))))) ++ wsX30 ++ wsX10 ++ wsX00 ++ wsX20 ++ (vx_atS RX3 41 "java/lang/IllegalArgumentException" ["java/lang/RuntimeException", "java/lang/Exception"]).filter goodWord ++ (vx_atS RX3 34 "java/lang/IndexOutOfBoundsException" ["java/lang/RuntimeException", "java/lang/Exception"]).filter goodWord)
def wsL_advise_r1 : List Cond := [Cond.classLink RL 13 "java/lang/IndexOutOfBoundsException", Cond.classLink RL 15 "java/lang/IllegalArgumentException", Cond.methodLink RL 54 yX3_advise, Cond.instanceMethod yX3_advise, Cond.selects RX3 yX3_advise yX3_advise, Cond.initialized RX3, Cond.code yX3_advise cX3_advise 9 (some .int), Cond.classLink RX3 30 "java/lang/IndexOutOfBoundsException", Cond.initialized "java/lang/IndexOutOfBoundsException", Cond.classLink RX3 37 "java/lang/IllegalArgumentException", Cond.initialized "java/lang/IllegalArgumentException", Cond.fieldLink RX3 19 "CoracleRace" "fleet" "LCoracleRace$Fleet;", Cond.methodLink RX3 83 yX1_has, Cond.instanceMethod yX1_has, Cond.selects RX1 yX1_has yX1_has, Cond.initialized RX1, Cond.code yX1_has cX1_has 2 (some .boolean), Cond.fieldLink RX1 15 "CoracleRace$Fleet" "size" "I", Cond.methodLink RX3 163 yX3_placeWith, Cond.instanceMethod yX3_placeWith, Cond.selects RX3 yX3_placeWith yX3_placeWith, Cond.code yX3_placeWith cX3_placeWith 6 (some .int), Cond.fieldLink RX3 23 "CoracleRace" "trial" "LCoracleRace$Fleet;", Cond.fieldLink RX3 96 "CoracleRace$Fleet" "boats" "[LCoracleRace$Boat;"]
def wsL_advise_r2 : List Cond := [Cond.fieldLink RX3 10 "CoracleRace" "river" "LCoracleRace$River;", Cond.fieldLink RX3 150 "CoracleRace$Fleet" "tick" "I", Cond.fieldLink RX3 196 "CoracleRace$Boat" "place" "I", Cond.methodLink RX3 146 yX0_copyFrom, Cond.instanceMethod yX0_copyFrom, Cond.selects RX0 yX0_copyFrom yX0_copyFrom, Cond.initialized RX0, Cond.code yX0_copyFrom cX0_copyFrom 2 none, Cond.fieldLink RX0 9 "CoracleRace$Boat" "strokes" "[I", Cond.methodLink RX0 52 arraycopyName, Cond.native arraycopyName, Cond.static arraycopyName, Cond.initialized "java/lang/System", Cond.fieldLink RX0 13 "CoracleRace$Boat" "length" "I", Cond.fieldLink RX0 17 "CoracleRace$Boat" "strength" "I", Cond.fieldLink RX0 20 "CoracleRace$Boat" "place" "I", Cond.fieldLink RX0 23 "CoracleRace$Boat" "lane" "I", Cond.fieldLink RX0 26 "CoracleRace$Boat" "heading" "I", Cond.fieldLink RX0 29 "CoracleRace$Boat" "soaked" "I", Cond.fieldLink RX0 32 "CoracleRace$Boat" "fouls" "I", Cond.fieldLink RX0 35 "CoracleRace$Boat" "in" "Z", Cond.fieldLink RX0 39 "CoracleRace$Boat" "tickIn" "I", Cond.fieldLink RX0 42 "CoracleRace$Boat" "spins" "I", Cond.fieldLink RX0 45 "CoracleRace$Boat" "stops" "I"]
def wsL_advise_r3 : List Cond := [Cond.methodLink RX3 103 yX0_takePattern, Cond.instanceMethod yX0_takePattern, Cond.selects RX0 yX0_takePattern yX0_takePattern, Cond.code yX0_takePattern cX0_takePattern 5 none, Cond.methodLink RX3 153 yX0_letTickGoBy, Cond.instanceMethod yX0_letTickGoBy, Cond.selects RX0 yX0_letTickGoBy yX0_letTickGoBy, Cond.code yX0_letTickGoBy cX0_letTickGoBy 4 none, Cond.methodLink RX0 62 yX0_strokeIn, Cond.instanceMethod yX0_strokeIn, Cond.selects RX0 yX0_strokeIn yX0_strokeIn, Cond.code yX0_strokeIn cX0_strokeIn 2 (some .int), Cond.methodLink RX0 82 yJ9_floorMod_7cf53, Cond.static yJ9_floorMod_7cf53, Cond.initialized RJ9, Cond.code yJ9_floorMod_7cf53 cJ9_floorMod_7cf53 3 (some .int), Cond.methodLink RX0 66 yX0_forceOf, Cond.instanceMethod yX0_forceOf, Cond.selects RX0 yX0_forceOf yX0_forceOf, Cond.code yX0_forceOf cX0_forceOf 2 (some .int), Cond.methodLink RX0 91 Lib.Math.max.name, Cond.static Lib.Math.max.name, Cond.initialized "java/lang/Math", Cond.code Lib.Math.max.name Lib.Math.max.code 2 (some .int)]
def wsL_advise_r4 : List Cond := [Cond.methodLink RX0 88 yX0_pushOf, Cond.instanceMethod yX0_pushOf, Cond.selects RX0 yX0_pushOf yX0_pushOf, Cond.code yX0_pushOf cX0_pushOf 2 (some .int), Cond.methodLink RX0 69 yX0_drift, Cond.instanceMethod yX0_drift, Cond.selects RX0 yX0_drift yX0_drift, Cond.code yX0_drift cX0_drift 2 none, Cond.methodLink RX0 94 yX2_isLane, Cond.static yX2_isLane, Cond.initialized RX2, Cond.code yX2_isLane cX2_isLane 1 (some .boolean), Cond.methodLink RX0 72 yX0_advance, Cond.instanceMethod yX0_advance, Cond.selects RX0 yX0_advance yX0_advance, Cond.code yX0_advance cX0_advance 5 none, Cond.methodLink RX0 98 Lib.Math.abs.name, Cond.static Lib.Math.abs.name, Cond.code Lib.Math.abs.name Lib.Math.abs.code 1 (some .int), Cond.fieldLink RX0 101 "CoracleRace$River" "water" "[I", Cond.methodLink RX0 108 Lib.Math.min.name, Cond.static Lib.Math.min.name, Cond.code Lib.Math.min.name Lib.Math.min.code 2 (some .int), Cond.methodLink RX0 104 yX2_firstStop]
def wsL_advise_r5 : List Cond := [Cond.instanceMethod yX2_firstStop, Cond.selects RX2 yX2_firstStop yX2_firstStop, Cond.code yX2_firstStop cX2_firstStop 7 (some .int), Cond.fieldLink RX2 19 "CoracleRace$River" "weirs" "I", Cond.fieldLink RX2 13 "CoracleRace$River" "places" "[I", Cond.fieldLink RX2 16 "CoracleRace$River" "gaps" "[I", Cond.methodLink RX0 76 yX0_soak, Cond.instanceMethod yX0_soak, Cond.selects RX0 yX0_soak yX0_soak, Cond.code yX0_soak cX0_soak 2 none]
def wsL_advise : List Cond := .codeWith yL_advise cL_advise 5 (some .int) [(0, 10, 13, 13), (0, 10, 17, 15)] :: ((wsL_advise_r1 ++ (wsL_advise_r2 ++ (wsL_advise_r3 ++ (wsL_advise_r4 ++ wsL_advise_r5)))) ++ wsX30 ++ wsX10 ++ wsX00 ++ wsX20 ++ (vx_atS RX3 34 "java/lang/IndexOutOfBoundsException" ["java/lang/RuntimeException", "java/lang/Exception"]).filter goodWord ++ (vx_atS RX3 41 "java/lang/IllegalArgumentException" ["java/lang/RuntimeException", "java/lang/Exception"]).filter goodWord)
def wsL_law0_r1 : List Cond := [Cond.classLink RL 8 RX3, Cond.instantiable RX3 3, Cond.initialized RX3, Cond.classLink RL 58 RX5, Cond.instantiable RX5 9, Cond.initialized RX5, Cond.arrayClass .long, Cond.methodLink RL 57 yX3_init, Cond.instanceMethod yX3_init, Cond.code yX3_init cX3_init 1 none, Cond.methodLink RX3 1 objectInit, Cond.instanceMethod objectInit, Cond.code objectInit ⟨#[0xb1]⟩ 1 none, Cond.classLink RX3 7 RX2, Cond.instantiable RX2 4, Cond.initialized RX2, Cond.fieldLink RX3 10 "CoracleRace" "river" "LCoracleRace$River;", Cond.classLink RX3 16 RX1, Cond.instantiable RX1 3, Cond.initialized RX1, Cond.fieldLink RX3 19 "CoracleRace" "fleet" "LCoracleRace$Fleet;", Cond.fieldLink RX3 23 "CoracleRace" "trial" "LCoracleRace$Fleet;", Cond.instanceMethod yX2_init, Cond.code yX2_init cX2_init 1 none]
def wsL_law0_r2 : List Cond := [Cond.methodLink RX2 1 objectInit, Cond.arrayClass .int, Cond.fieldLink RX2 7 "CoracleRace$River" "water" "[I", Cond.fieldLink RX2 13 "CoracleRace$River" "places" "[I", Cond.fieldLink RX2 16 "CoracleRace$River" "gaps" "[I", Cond.fieldLink RX2 19 "CoracleRace$River" "weirs" "I", Cond.methodLink RX3 18 yX1_init, Cond.instanceMethod yX1_init, Cond.code yX1_init cX1_init 2 none, Cond.methodLink RX1 1 objectInit, Cond.classLink RX1 9 RX0, Cond.fieldLink RX1 11 "CoracleRace$Fleet" "boats" "[LCoracleRace$Boat;", Cond.fieldLink RX1 15 "CoracleRace$Fleet" "size" "I", Cond.fieldLink RX1 19 "CoracleRace$Fleet" "tick" "I", Cond.instantiable RX0 12, Cond.initialized RX0, Cond.instanceMethod yX0_init, Cond.code yX0_init cX0_init 1 none, Cond.methodLink RX0 1 objectInit, Cond.fieldLink RX0 9 "CoracleRace$Boat" "strokes" "[I", Cond.fieldLink RX0 13 "CoracleRace$Boat" "length" "I", Cond.fieldLink RX0 17 "CoracleRace$Boat" "strength" "I", Cond.fieldLink RX0 20 "CoracleRace$Boat" "place" "I", Cond.fieldLink RX0 23 "CoracleRace$Boat" "lane" "I"]
def wsL_law0_r3 : List Cond := [Cond.fieldLink RX0 26 "CoracleRace$Boat" "heading" "I", Cond.fieldLink RX0 29 "CoracleRace$Boat" "soaked" "I", Cond.fieldLink RX0 32 "CoracleRace$Boat" "fouls" "I", Cond.fieldLink RX0 35 "CoracleRace$Boat" "in" "Z", Cond.fieldLink RX0 39 "CoracleRace$Boat" "tickIn" "I", Cond.fieldLink RX0 42 "CoracleRace$Boat" "spins" "I", Cond.fieldLink RX0 45 "CoracleRace$Boat" "stops" "I", Cond.methodLink RL 60 yX5_init, Cond.instanceMethod yX5_init, Cond.code yX5_init cX5_init 1 none, Cond.methodLink RX5 1 objectInit, Cond.fieldLink RX5 7 "CoracleRaceModel" "water" "[I", Cond.fieldLink RX5 13 "CoracleRaceModel" "weirAt" "[I", Cond.fieldLink RX5 16 "CoracleRaceModel" "gap" "[I", Cond.fieldLink RX5 19 "CoracleRaceModel" "strength" "[I", Cond.classLink RX5 22 RX4, Cond.instantiable RX4 12, Cond.initialized RX4, Cond.fieldLink RX5 27 "CoracleRaceModel" "s" "LCoracleRaceModel$State;", Cond.fieldLink RX5 31 "CoracleRaceModel" "ahead" "LCoracleRaceModel$State;", Cond.instanceMethod yX4_init, Cond.code yX4_init cX4_init 2 none, Cond.fieldLink RX4 3 "CoracleRaceModel$State" "this$0" "LCoracleRaceModel;", Cond.methodLink RX4 9 objectInit]
def wsL_law0_r4 : List Cond := [Cond.fieldLink RX4 15 "CoracleRaceModel$State" "place" "[I", Cond.fieldLink RX4 19 "CoracleRaceModel$State" "lane" "[I", Cond.fieldLink RX4 22 "CoracleRaceModel$State" "heads" "[I", Cond.fieldLink RX4 25 "CoracleRaceModel$State" "soaked" "[I", Cond.fieldLink RX4 28 "CoracleRaceModel$State" "fouls" "[I", Cond.fieldLink RX4 31 "CoracleRaceModel$State" "came" "[I", Cond.fieldLink RX4 34 "CoracleRaceModel$State" "spins" "[I", Cond.fieldLink RX4 37 "CoracleRaceModel$State" "stops" "[I", Cond.fieldLink RX4 40 "CoracleRaceModel$State" "length" "[I", Cond.fieldLink RX4 43 "CoracleRaceModel$State" "strokes" "[I", Cond.methodLink RL 61 yL_setWater, Cond.static yL_setWater, Cond.initialized RL, Cond.codeWith yL_setWater cL_setWater 5 (some .int) [(0, 10, 13, 13), (0, 10, 17, 15)], Cond.classLink RL 13 "java/lang/IndexOutOfBoundsException", Cond.classLink RL 15 "java/lang/IllegalArgumentException", Cond.methodLink RL 7 yX3_setWater, Cond.instanceMethod yX3_setWater, Cond.selects RX3 yX3_setWater yX3_setWater, Cond.code yX3_setWater cX3_setWater 4 (some .int), Cond.classLink RX3 30 "java/lang/IndexOutOfBoundsException", Cond.initialized "java/lang/IndexOutOfBoundsException", Cond.classLink RX3 37 "java/lang/IllegalArgumentException", Cond.initialized "java/lang/IllegalArgumentException"]
def wsL_law0_r5 : List Cond := [Cond.fieldLink RX3 42 "CoracleRace$River" "water" "[I", Cond.methodLink RX3 26 yX2_isLane, Cond.static yX2_isLane, Cond.code yX2_isLane cX2_isLane 1 (some .boolean), Cond.methodLink RL 66 yX5_setWater, Cond.instanceMethod yX5_setWater, Cond.selects RX5 yX5_setWater yX5_setWater, Cond.code yX5_setWater cX5_setWater 4 (some .int), Cond.fieldLink RX5 34 "CoracleRaceModel" "thrown" "I", Cond.methodLink RX5 41 yX5_isFrom, Cond.static yX5_isFrom, Cond.code yX5_isFrom cX5_isFrom 3 (some .boolean), Cond.methodLink RX5 45 yX5_no, Cond.instanceMethod yX5_no, Cond.selects RX5 yX5_no yX5_no, Cond.code yX5_no cX5_no 2 (some .int), Cond.methodLink RL 67 yX5_thrown, Cond.instanceMethod yX5_thrown, Cond.selects RX5 yX5_thrown yX5_thrown, Cond.code yX5_thrown cX5_thrown 1 (some .int), Cond.methodLink RL 71 yL_weir, Cond.static yL_weir, Cond.codeWith yL_weir cL_weir 5 (some .int) [(0, 10, 13, 15), (0, 10, 17, 20)], Cond.classLink RL 20 "java/lang/IllegalStateException"]
def wsL_law0_r6 : List Cond := [Cond.methodLink RL 17 yX3_weir, Cond.instanceMethod yX3_weir, Cond.selects RX3 yX3_weir yX3_weir, Cond.code yX3_weir cX3_weir 3 (some .int), Cond.classLink RX3 54 "java/lang/IllegalStateException", Cond.initialized "java/lang/IllegalStateException", Cond.fieldLink RX3 50 "CoracleRace$River" "weirs" "I", Cond.methodLink RX3 59 yX2_hasWeirAt, Cond.instanceMethod yX2_hasWeirAt, Cond.selects RX2 yX2_hasWeirAt yX2_hasWeirAt, Cond.code yX2_hasWeirAt cX2_hasWeirAt 3 (some .boolean), Cond.methodLink RX3 64 yX2_addWeir, Cond.instanceMethod yX2_addWeir, Cond.selects RX2 yX2_addWeir yX2_addWeir, Cond.code yX2_addWeir cX2_addWeir 3 none, Cond.methodLink RL 73 yX5_weir, Cond.instanceMethod yX5_weir, Cond.selects RX5 yX5_weir yX5_weir, Cond.code yX5_weir cX5_weir 5 (some .int), Cond.fieldLink RX5 49 "CoracleRaceModel" "weirs" "I", Cond.methodLink RL 74 yL_launch, Cond.static yL_launch, Cond.codeWith yL_launch cL_launch 5 (some .int) [(0, 10, 13, 15), (0, 10, 17, 20)], Cond.methodLink RL 22 yX3_launch]
def wsL_law0_r7 : List Cond := [Cond.instanceMethod yX3_launch, Cond.selects RX3 yX3_launch yX3_launch, Cond.code yX3_launch cX3_launch 3 (some .int), Cond.fieldLink RX3 74 "CoracleRace$Fleet" "size" "I", Cond.methodLink RX3 79 yX1_add, Cond.instanceMethod yX1_add, Cond.selects RX1 yX1_add yX1_add, Cond.code yX1_add cX1_add 3 (some .int), Cond.methodLink RX1 23 yX0_start, Cond.instanceMethod yX0_start, Cond.selects RX0 yX0_start yX0_start, Cond.code yX0_start cX0_start 3 none, Cond.methodLink RX0 48 yX0_takePattern, Cond.instanceMethod yX0_takePattern, Cond.selects RX0 yX0_takePattern yX0_takePattern, Cond.code yX0_takePattern cX0_takePattern 5 none, Cond.methodLink RL 76 yX5_launch, Cond.instanceMethod yX5_launch, Cond.selects RX5 yX5_launch yX5_launch, Cond.code yX5_launch cX5_launch 3 (some .int), Cond.fieldLink RX5 38 "CoracleRaceModel" "boats" "I", Cond.methodLink RL 77 yL_paddle, Cond.static yL_paddle, Cond.codeWith yL_paddle cL_paddle 6 (some .int) [(0, 12, 15, 13), (0, 12, 19, 15)]]
def wsL_law0_r8 : List Cond := [Cond.methodLink RL 25 yX3_paddle, Cond.instanceMethod yX3_paddle, Cond.selects RX3 yX3_paddle yX3_paddle, Cond.code yX3_paddle cX3_paddle 5 (some .int), Cond.fieldLink RX3 96 "CoracleRace$Fleet" "boats" "[LCoracleRace$Boat;", Cond.fieldLink RX3 100 "CoracleRace$Boat" "length" "I", Cond.methodLink RX3 83 yX1_has, Cond.instanceMethod yX1_has, Cond.selects RX1 yX1_has yX1_has, Cond.code yX1_has cX1_has 2 (some .boolean), Cond.methodLink RX3 90 yX3_isPattern, Cond.static yX3_isPattern, Cond.code yX3_isPattern cX3_isPattern 4 (some .boolean), Cond.methodLink RX3 103 yX0_takePattern, Cond.methodLink RL 80 yX5_paddle, Cond.instanceMethod yX5_paddle, Cond.selects RX5 yX5_paddle yX5_paddle, Cond.code yX5_paddle cX5_paddle 5 (some .int), Cond.methodLink RX5 67 yX5_isBoat, Cond.instanceMethod yX5_isBoat, Cond.selects RX5 yX5_isBoat yX5_isBoat, Cond.code yX5_isBoat cX5_isBoat 2 (some .boolean), Cond.methodLink RX5 71 yX5_isPattern, Cond.static yX5_isPattern]
def wsL_law0_r9 : List Cond := [Cond.code yX5_isPattern cX5_isPattern 3 (some .boolean), Cond.fieldLink RX5 64 "CoracleRaceModel" "TENS" "[I", Cond.methodLink RL 81 yL_tar, Cond.static yL_tar, Cond.codeWith yL_tar cL_tar 4 (some .int) [(0, 9, 12, 13), (0, 9, 15, 20)], Cond.methodLink RL 29 yX3_tar, Cond.instanceMethod yX3_tar, Cond.selects RX3 yX3_tar yX3_tar, Cond.code yX3_tar cX3_tar 2 (some .int), Cond.methodLink RX3 106 yX0_isIn, Cond.instanceMethod yX0_isIn, Cond.selects RX0 yX0_isIn yX0_isIn, Cond.code yX0_isIn cX0_isIn 1 (some .boolean), Cond.methodLink RX3 112 yX0_dryOut, Cond.instanceMethod yX0_dryOut, Cond.selects RX0 yX0_dryOut yX0_dryOut, Cond.code yX0_dryOut cX0_dryOut 2 (some .int), Cond.methodLink RL 84 yX5_tar, Cond.instanceMethod yX5_tar, Cond.selects RX5 yX5_tar yX5_tar, Cond.code yX5_tar cX5_tar 3 (some .int), Cond.methodLink RX5 75 yX4_isIn, Cond.instanceMethod yX4_isIn, Cond.selects RX4 yX4_isIn yX4_isIn]
def wsL_law0_r10 : List Cond := [Cond.code yX4_isIn cX4_isIn 2 (some .boolean), Cond.methodLink RL 85 yL_boat, Cond.static yL_boat, Cond.codeWith yL_boat cL_boat 5 (some .int) [(0, 10, 13, 13)], Cond.methodLink RL 33 yX3_boat, Cond.instanceMethod yX3_boat, Cond.selects RX3 yX3_boat yX3_boat, Cond.code yX3_boat cX3_boat 3 (some .int), Cond.methodLink RX3 118 yX0_fact, Cond.instanceMethod yX0_fact, Cond.selects RX0 yX0_fact yX0_fact, Cond.code yX0_fact cX0_fact 2 (some .int), Cond.methodLink RX0 58 yX0_time, Cond.instanceMethod yX0_time, Cond.selects RX0 yX0_time yX0_time, Cond.code yX0_time cX0_time 1 (some .int), Cond.methodLink RL 87 yX5_boat, Cond.instanceMethod yX5_boat, Cond.selects RX5 yX5_boat yX5_boat, Cond.code yX5_boat cX5_boat 3 (some .int), Cond.methodLink RX5 99 yX5_boatTold, Cond.instanceMethod yX5_boatTold, Cond.selects RX5 yX5_boatTold yX5_boatTold, Cond.code yX5_boatTold cX5_boatTold 4 (some .int)]
def wsL_law0_r11 : List Cond := [Cond.methodLink RX5 90 yX4_time, Cond.instanceMethod yX4_time, Cond.selects RX4 yX4_time yX4_time, Cond.code yX4_time cX4_time 2 (some .int), Cond.methodLink RX4 60 yX4_isIn, Cond.methodLink RL 88 yL_count, Cond.static yL_count, Cond.codeWith yL_count cL_count 4 (some .int) [(0, 9, 12, 13)], Cond.methodLink RL 36 yX3_count, Cond.instanceMethod yX3_count, Cond.selects RX3 yX3_count yX3_count, Cond.code yX3_count cX3_count 2 (some .int), Cond.methodLink RX3 124 yX3_countIn, Cond.instanceMethod yX3_countIn, Cond.selects RX3 yX3_countIn yX3_countIn, Cond.code yX3_countIn cX3_countIn 3 (some .int), Cond.fieldLink RX3 150 "CoracleRace$Fleet" "tick" "I", Cond.methodLink RX3 139 yX1_boatsIn, Cond.instanceMethod yX1_boatsIn, Cond.selects RX1 yX1_boatsIn yX1_boatsIn, Cond.code yX1_boatsIn cX1_boatsIn 3 (some .int), Cond.methodLink RX1 35 yX0_isIn, Cond.methodLink RX3 187 yX1_foulsAdded, Cond.instanceMethod yX1_foulsAdded]
def wsL_law0_r12 : List Cond := [Cond.selects RX1 yX1_foulsAdded yX1_foulsAdded, Cond.code yX1_foulsAdded cX1_foulsAdded 3 (some .int), Cond.fieldLink RX1 39 "CoracleRace$Boat" "fouls" "I", Cond.methodLink RX3 190 yX1_leader, Cond.instanceMethod yX1_leader, Cond.selects RX1 yX1_leader yX1_leader, Cond.code yX1_leader cX1_leader 4 (some .int), Cond.fieldLink RX1 42 "CoracleRace$Boat" "place" "I", Cond.methodLink RX3 193 yX1_winner, Cond.instanceMethod yX1_winner, Cond.selects RX1 yX1_winner yX1_winner, Cond.code yX1_winner cX1_winner 4 (some .int), Cond.methodLink RX1 45 yX0_time, Cond.methodLink RL 90 yX5_count, Cond.instanceMethod yX5_count, Cond.selects RX5 yX5_count yX5_count, Cond.code yX5_count cX5_count 2 (some .int), Cond.methodLink RX5 103 yX4_counted, Cond.instanceMethod yX4_counted, Cond.selects RX4 yX4_counted yX4_counted, Cond.code yX4_counted cX4_counted 6 (some .int), Cond.fieldLink RX4 52 "CoracleRaceModel$State" "tick" "I", Cond.methodLink RX4 118 yX4_time, Cond.methodLink RX4 121 yX4_in]
def wsL_law0_r13 : List Cond := [Cond.instanceMethod yX4_in, Cond.selects RX4 yX4_in yX4_in, Cond.code yX4_in cX4_in 3 (some .int), Cond.methodLink RL 91 yL_next, Cond.static yL_next, Cond.codeWith yL_next cL_next 4 (some .int) [(0, 9, 12, 15)], Cond.methodLink RL 39 yX3_next, Cond.instanceMethod yX3_next, Cond.selects RX3 yX3_next yX3_next, Cond.code yX3_next cX3_next 2 (some .int), Cond.methodLink RX3 130 yX2_firstWeirBeyond, Cond.instanceMethod yX2_firstWeirBeyond, Cond.selects RX2 yX2_firstWeirBeyond yX2_firstWeirBeyond, Cond.code yX2_firstWeirBeyond cX2_firstWeirBeyond 4 (some .int), Cond.methodLink RL 93 yX5_next, Cond.instanceMethod yX5_next, Cond.selects RX5 yX5_next yX5_next, Cond.code yX5_next cX5_next 4 (some .int), Cond.methodLink RX5 106 Lib.Math.min.name, Cond.static Lib.Math.min.name, Cond.initialized "java/lang/Math", Cond.code Lib.Math.min.name Lib.Math.min.code 2 (some .int), Cond.methodLink RL 94 yL_rank, Cond.static yL_rank]
def wsL_law0_r14 : List Cond := [Cond.codeWith yL_rank cL_rank 4 (some .int) [(0, 9, 12, 13)], Cond.methodLink RL 42 yX3_rank, Cond.instanceMethod yX3_rank, Cond.selects RX3 yX3_rank yX3_rank, Cond.code yX3_rank cX3_rank 2 (some .int), Cond.methodLink RX3 133 yX1_rankOf, Cond.instanceMethod yX1_rankOf, Cond.selects RX1 yX1_rankOf yX1_rankOf, Cond.code yX1_rankOf cX1_rankOf 4 (some .int), Cond.methodLink RX1 49 yX0_isAheadOf, Cond.instanceMethod yX0_isAheadOf, Cond.selects RX0 yX0_isAheadOf yX0_isAheadOf, Cond.code yX0_isAheadOf cX0_isAheadOf 2 (some .boolean), Cond.methodLink RL 96 yX5_rank, Cond.instanceMethod yX5_rank, Cond.selects RX5 yX5_rank yX5_rank, Cond.code yX5_rank cX5_rank 2 (some .int), Cond.methodLink RX5 114 yX5_rankOf, Cond.instanceMethod yX5_rankOf, Cond.selects RX5 yX5_rankOf yX5_rankOf, Cond.code yX5_rankOf cX5_rankOf 4 (some .int), Cond.methodLink RX5 111 yX5_isAhead, Cond.instanceMethod yX5_isAhead, Cond.selects RX5 yX5_isAhead yX5_isAhead]
def wsL_law0_r15 : List Cond := [Cond.code yX5_isAhead cX5_isAhead 3 (some .boolean), Cond.methodLink RL 97 yL_go, Cond.static yL_go, Cond.codeWith yL_go cL_go 4 (some .int) [(0, 9, 12, 15)], Cond.methodLink RL 45 yX3_go, Cond.instanceMethod yX3_go, Cond.selects RX3 yX3_go yX3_go, Cond.code yX3_go cX3_go 3 (some .int), Cond.methodLink RX3 142 yX1_letTicksGoBy, Cond.instanceMethod yX1_letTicksGoBy, Cond.selects RX1 yX1_letTicksGoBy yX1_letTicksGoBy, Cond.code yX1_letTicksGoBy cX1_letTicksGoBy 5 none, Cond.methodLink RX1 31 yX0_letTickGoBy, Cond.instanceMethod yX0_letTickGoBy, Cond.selects RX0 yX0_letTickGoBy yX0_letTickGoBy, Cond.code yX0_letTickGoBy cX0_letTickGoBy 4 none, Cond.methodLink RX0 62 yX0_strokeIn, Cond.instanceMethod yX0_strokeIn, Cond.selects RX0 yX0_strokeIn yX0_strokeIn, Cond.code yX0_strokeIn cX0_strokeIn 2 (some .int), Cond.methodLink RX0 82 yJ9_floorMod_7cf53, Cond.static yJ9_floorMod_7cf53, Cond.initialized RJ9, Cond.code yJ9_floorMod_7cf53 cJ9_floorMod_7cf53 3 (some .int)]
def wsL_law0_r16 : List Cond := [Cond.methodLink RX0 66 yX0_forceOf, Cond.instanceMethod yX0_forceOf, Cond.selects RX0 yX0_forceOf yX0_forceOf, Cond.code yX0_forceOf cX0_forceOf 2 (some .int), Cond.methodLink RX0 91 Lib.Math.max.name, Cond.static Lib.Math.max.name, Cond.code Lib.Math.max.name Lib.Math.max.code 2 (some .int), Cond.methodLink RX0 88 yX0_pushOf, Cond.instanceMethod yX0_pushOf, Cond.selects RX0 yX0_pushOf yX0_pushOf, Cond.code yX0_pushOf cX0_pushOf 2 (some .int), Cond.methodLink RX0 69 yX0_drift, Cond.instanceMethod yX0_drift, Cond.selects RX0 yX0_drift yX0_drift, Cond.code yX0_drift cX0_drift 2 none, Cond.methodLink RX0 94 yX2_isLane, Cond.methodLink RX0 72 yX0_advance, Cond.instanceMethod yX0_advance, Cond.selects RX0 yX0_advance yX0_advance, Cond.code yX0_advance cX0_advance 5 none, Cond.methodLink RX0 98 Lib.Math.abs.name, Cond.static Lib.Math.abs.name, Cond.code Lib.Math.abs.name Lib.Math.abs.code 1 (some .int), Cond.fieldLink RX0 101 "CoracleRace$River" "water" "[I"]
def wsL_law0_r17 : List Cond := [Cond.methodLink RX0 108 Lib.Math.min.name, Cond.methodLink RX0 104 yX2_firstStop, Cond.instanceMethod yX2_firstStop, Cond.selects RX2 yX2_firstStop yX2_firstStop, Cond.code yX2_firstStop cX2_firstStop 7 (some .int), Cond.methodLink RX0 76 yX0_soak, Cond.instanceMethod yX0_soak, Cond.selects RX0 yX0_soak yX0_soak, Cond.code yX0_soak cX0_soak 2 none, Cond.methodLink RL 99 yX5_go, Cond.instanceMethod yX5_go, Cond.selects RX5 yX5_go yX5_go, Cond.code yX5_go cX5_go 4 (some .int), Cond.methodLink RX5 117 yX4_in, Cond.methodLink RX5 121 yX4_go_, Cond.instanceMethod yX4_go_, Cond.selects RX4 yX4_go_ yX4_go_, Cond.code yX4_go_ cX4_go_ 2 none, Cond.methodLink RX4 115 yX4_go, Cond.instanceMethod yX4_go, Cond.selects RX4 yX4_go yX4_go, Cond.code yX4_go cX4_go 5 none, Cond.methodLink RX4 76 Lib.Math.abs.name, Cond.methodLink RX4 67 Lib.Math.min.name]
def wsL_law0_r18 : List Cond := [Cond.methodLink RX4 95 yX4_paddles, Cond.instanceMethod yX4_paddles, Cond.selects RX4 yX4_paddles yX4_paddles, Cond.code yX4_paddles cX4_paddles 4 (some .int), Cond.methodLink RX4 83 Lib.Math.max.name, Cond.methodLink RX4 73 yX4_stroke, Cond.instanceMethod yX4_stroke, Cond.selects RX4 yX4_stroke yX4_stroke, Cond.code yX4_stroke cX4_stroke 3 (some .int), Cond.methodLink RX4 98 yX4_drift, Cond.instanceMethod yX4_drift, Cond.selects RX4 yX4_drift yX4_drift, Cond.code yX4_drift cX4_drift 3 none, Cond.methodLink RX4 105 yX4_stopsAt, Cond.instanceMethod yX4_stopsAt, Cond.selects RX4 yX4_stopsAt yX4_stopsAt, Cond.code yX4_stopsAt cX4_stopsAt 5 (some .int), Cond.methodLink RX4 108 yX4_soak, Cond.instanceMethod yX4_soak, Cond.selects RX4 yX4_soak yX4_soak, Cond.code yX4_soak cX4_soak 3 none, Cond.methodLink RL 100 yL_arrives, Cond.static yL_arrives, Cond.codeWith yL_arrives cL_arrives 4 (some .int) [(0, 9, 12, 13)]]
def wsL_law0_r19 : List Cond := [Cond.methodLink RL 48 yX3_arrives, Cond.instanceMethod yX3_arrives, Cond.selects RX3 yX3_arrives yX3_arrives, Cond.code yX3_arrives cX3_arrives 4 (some .int), Cond.methodLink RX3 146 yX0_copyFrom, Cond.instanceMethod yX0_copyFrom, Cond.selects RX0 yX0_copyFrom yX0_copyFrom, Cond.code yX0_copyFrom cX0_copyFrom 2 none, Cond.methodLink RX0 52 arraycopyName, Cond.native arraycopyName, Cond.static arraycopyName, Cond.initialized "java/lang/System", Cond.methodLink RX3 153 yX0_letTickGoBy, Cond.methodLink RL 102 yX5_arrives, Cond.instanceMethod yX5_arrives, Cond.selects RX5 yX5_arrives yX5_arrives, Cond.code yX5_arrives cX5_arrives 3 (some .int), Cond.methodLink RX5 124 yX4_become, Cond.instanceMethod yX4_become, Cond.selects RX4 yX4_become yX4_become, Cond.code yX4_become cX4_become 2 none, Cond.methodLink RX4 56 yX4_copy, Cond.instanceMethod yX4_copy, Cond.selects RX4 yX4_copy yX4_copy]
def wsL_law0_r20 : List Cond := [Cond.code yX4_copy cX4_copy 3 none, Cond.methodLink RX4 46 arraycopyName, Cond.methodLink RL 103 yL_foresee, Cond.static yL_foresee, Cond.codeWith yL_foresee cL_foresee 5 (some .int) [(0, 10, 13, 15), (0, 10, 17, 13)], Cond.methodLink RL 51 yX3_foresee, Cond.instanceMethod yX3_foresee, Cond.selects RX3 yX3_foresee yX3_foresee, Cond.code yX3_foresee cX3_foresee 3 (some .int), Cond.methodLink RX3 158 yX1_copyFrom, Cond.instanceMethod yX1_copyFrom, Cond.selects RX1 yX1_copyFrom yX1_copyFrom, Cond.code yX1_copyFrom cX1_copyFrom 3 none, Cond.methodLink RX1 27 yX0_copyFrom, Cond.methodLink RL 105 yX5_foresee, Cond.instanceMethod yX5_foresee, Cond.selects RX5 yX5_foresee yX5_foresee, Cond.code yX5_foresee cX5_foresee 4 (some .int), Cond.methodLink RL 106 yL_advise, Cond.static yL_advise, Cond.codeWith yL_advise cL_advise 5 (some .int) [(0, 10, 13, 13), (0, 10, 17, 15)], Cond.methodLink RL 54 yX3_advise, Cond.instanceMethod yX3_advise, Cond.selects RX3 yX3_advise yX3_advise]
def wsL_law0_r21 : List Cond := [Cond.code yX3_advise cX3_advise 9 (some .int), Cond.methodLink RX3 163 yX3_placeWith, Cond.instanceMethod yX3_placeWith, Cond.selects RX3 yX3_placeWith yX3_placeWith, Cond.code yX3_placeWith cX3_placeWith 6 (some .int), Cond.fieldLink RX3 196 "CoracleRace$Boat" "place" "I", Cond.methodLink RL 108 yX5_advise, Cond.instanceMethod yX5_advise, Cond.selects RX5 yX5_advise yX5_advise, Cond.code yX5_advise cX5_advise 7 (some .int), Cond.methodLink RL 109 yX3_mean, Cond.instanceMethod yX3_mean, Cond.selects RX3 yX3_mean yX3_mean, Cond.code yX3_mean cX3_mean 1 (some .double), Cond.methodLink RX3 167 yX1_placesAdded, Cond.instanceMethod yX1_placesAdded, Cond.selects RX1 yX1_placesAdded yX1_placesAdded, Cond.code yX1_placesAdded cX1_placesAdded 3 (some .int), Cond.methodLink RL 113 yX5_mean, Cond.instanceMethod yX5_mean, Cond.selects RX5 yX5_mean yX5_mean, Cond.code yX5_mean cX5_mean 3 (some .double), Cond.methodLink RL 114 yX3_digest, Cond.instanceMethod yX3_digest]
def wsL_law0_r22 : List Cond := [Cond.selects RX3 yX3_digest yX3_digest, Cond.code yX3_digest cX3_digest 4 (some .long), Cond.constantLong RX3 170 (1163), Cond.constantLong RX3 172 (31), Cond.fieldLink RX3 174 "CoracleRace$River" "places" "[I", Cond.fieldLink RX3 177 "CoracleRace$River" "gaps" "[I", Cond.methodLink RX3 180 yX3_digestWith, Cond.instanceMethod yX3_digestWith, Cond.selects RX3 yX3_digestWith yX3_digestWith, Cond.code yX3_digestWith cX3_digestWith 7 (some .long), Cond.fieldLink RX3 184 "CoracleRace$Boat" "strokes" "[I", Cond.methodLink RL 118 yX5_digest, Cond.instanceMethod yX5_digest, Cond.selects RX5 yX5_digest yX5_digest, Cond.code yX5_digest cX5_digest 7 (some .long), Cond.constantLong RX5 128 (1163), Cond.constantLong RX5 130 (31), Cond.methodLink RX5 132 yX4_stroke]
def wsL_law0 : List Cond := (wsL_law0_r1 ++ (wsL_law0_r2 ++ (wsL_law0_r3 ++ (wsL_law0_r4 ++ (wsL_law0_r5 ++ (wsL_law0_r6 ++ (wsL_law0_r7 ++ (wsL_law0_r8 ++ (wsL_law0_r9 ++ (wsL_law0_r10 ++ (wsL_law0_r11 ++ (wsL_law0_r12 ++ (wsL_law0_r13 ++ (wsL_law0_r14 ++ (wsL_law0_r15 ++ (wsL_law0_r16 ++ (wsL_law0_r17 ++ (wsL_law0_r18 ++ (wsL_law0_r19 ++ (wsL_law0_r20 ++ (wsL_law0_r21 ++ wsL_law0_r22))))))))))))))))))))) ++ wsX30 ++ wsX50 ++ wsX20 ++ wsX10 ++ wsX00 ++ wsX40 ++ ([] : List Cond)
def wsL_law : List Cond := wsL_law0 ++ (vx_atS RX3 34 "java/lang/IndexOutOfBoundsException" ["java/lang/RuntimeException", "java/lang/Exception"]).filter goodWord ++ (vx_atS RX3 41 "java/lang/IllegalArgumentException" ["java/lang/RuntimeException", "java/lang/Exception"]).filter goodWord ++ (vx_atS RX3 58 "java/lang/IllegalStateException" ["java/lang/RuntimeException", "java/lang/Exception"]).filter goodWord
abbrev vwCl : List vw_C := [(RX0, TX0, 12), (RX1, TX1, 3), (RX2, TX2, 4), (RX3, TX3, 3), (RX4, TX4, 12), (RX5, TX5, 9)]
end
section
theorem dX0_init_0 : decode cX0_init 0 = .ok (.aload_n 0, 1) := by decide +kernel
theorem dX0_init_1 : decode cX0_init 1 = .ok (.invokespecial 1, 3) := by decide +kernel
theorem dX0_init_4 : decode cX0_init 4 = .ok (.aload_n 0, 1) := by decide +kernel
theorem dX0_init_5 : decode cX0_init 5 = .ok (.bipush 6, 2) := by decide +kernel
theorem dX0_init_7 : decode cX0_init 7 = .ok (.newarray .int, 2) := by decide +kernel
theorem dX0_init_9 : decode cX0_init 9 = .ok (.putfield 9, 3) := by decide +kernel
theorem dX0_init_12 : decode cX0_init 12 = .ok (.aload_n 0, 1) := by decide +kernel
theorem dX0_init_13 : decode cX0_init 13 = .ok (.iconst 1, 1) := by decide +kernel
theorem dX0_init_14 : decode cX0_init 14 = .ok (.putfield 13, 3) := by decide +kernel
theorem dX0_init_17 : decode cX0_init 17 = .ok (.aload_n 0, 1) := by decide +kernel
theorem dX0_init_18 : decode cX0_init 18 = .ok (.iconst 1, 1) := by decide +kernel
theorem dX0_init_19 : decode cX0_init 19 = .ok (.putfield 17, 3) := by decide +kernel
theorem dX0_init_22 : decode cX0_init 22 = .ok (.aload_n 0, 1) := by decide +kernel
theorem dX0_init_23 : decode cX0_init 23 = .ok (.iconst 0, 1) := by decide +kernel
theorem dX0_init_24 : decode cX0_init 24 = .ok (.putfield 20, 3) := by decide +kernel
theorem dX0_init_27 : decode cX0_init 27 = .ok (.aload_n 0, 1) := by decide +kernel
theorem dX0_init_28 : decode cX0_init 28 = .ok (.iconst 0, 1) := by decide +kernel
theorem dX0_init_29 : decode cX0_init 29 = .ok (.putfield 23, 3) := by decide +kernel
theorem dX0_init_32 : decode cX0_init 32 = .ok (.aload_n 0, 1) := by decide +kernel
theorem dX0_init_33 : decode cX0_init 33 = .ok (.iconst 0, 1) := by decide +kernel
theorem dX0_init_34 : decode cX0_init 34 = .ok (.putfield 26, 3) := by decide +kernel
theorem dX0_init_37 : decode cX0_init 37 = .ok (.aload_n 0, 1) := by decide +kernel
theorem dX0_init_38 : decode cX0_init 38 = .ok (.iconst 0, 1) := by decide +kernel
theorem dX0_init_39 : decode cX0_init 39 = .ok (.putfield 29, 3) := by decide +kernel
theorem dX0_init_42 : decode cX0_init 42 = .ok (.aload_n 0, 1) := by decide +kernel
theorem dX0_init_43 : decode cX0_init 43 = .ok (.iconst 0, 1) := by decide +kernel
theorem dX0_init_44 : decode cX0_init 44 = .ok (.putfield 32, 3) := by decide +kernel
theorem dX0_init_47 : decode cX0_init 47 = .ok (.aload_n 0, 1) := by decide +kernel
theorem dX0_init_48 : decode cX0_init 48 = .ok (.iconst 0, 1) := by decide +kernel
theorem dX0_init_49 : decode cX0_init 49 = .ok (.putfield 35, 3) := by decide +kernel
theorem dX0_init_52 : decode cX0_init 52 = .ok (.aload_n 0, 1) := by decide +kernel
theorem dX0_init_53 : decode cX0_init 53 = .ok (.iconst 0, 1) := by decide +kernel
theorem dX0_init_54 : decode cX0_init 54 = .ok (.putfield 39, 3) := by decide +kernel
theorem dX0_init_57 : decode cX0_init 57 = .ok (.aload_n 0, 1) := by decide +kernel
theorem dX0_init_58 : decode cX0_init 58 = .ok (.iconst 0, 1) := by decide +kernel
theorem dX0_init_59 : decode cX0_init 59 = .ok (.putfield 42, 3) := by decide +kernel
theorem dX0_init_62 : decode cX0_init 62 = .ok (.aload_n 0, 1) := by decide +kernel
theorem dX0_init_63 : decode cX0_init 63 = .ok (.iconst 0, 1) := by decide +kernel
theorem dX0_init_64 : decode cX0_init 64 = .ok (.putfield 45, 3) := by decide +kernel
theorem dX0_init_67 : decode cX0_init 67 = .ok (.return_, 1) := by decide +kernel
set_option maxRecDepth 20000 in
theorem ggX0_start_X0_takePattern : GoodIn wsX0_start wsX0_takePattern := goodIn_r _ [7, 8, 9, 10, 11, 12, 13, 14, 15, 16, 17, 18, 19, 20, 21] (by decide +kernel) (by decide +kernel)
set_option maxRecDepth 20000 in
theorem gX0_start_X0_takePattern : GoodIn wsX0_start (wsV RX0 48 RX0 yX0_takePattern wsX0_takePattern) := goodIn_app (goodIn_of _ (by decide +kernel)) ggX0_start_X0_takePattern
theorem dX0_start_0 : decode cX0_start 0 = .ok (.aload_n 0, 1) := by decide +kernel
theorem dX0_start_1 : decode cX0_start 1 = .ok (.iload_n 1, 1) := by decide +kernel
theorem dX0_start_2 : decode cX0_start 2 = .ok (.putfield 23, 3) := by decide +kernel
theorem dX0_start_5 : decode cX0_start 5 = .ok (.aload_n 0, 1) := by decide +kernel
theorem dX0_start_6 : decode cX0_start 6 = .ok (.iload_n 2, 1) := by decide +kernel
theorem dX0_start_7 : decode cX0_start 7 = .ok (.putfield 17, 3) := by decide +kernel
theorem dX0_start_10 : decode cX0_start 10 = .ok (.aload_n 0, 1) := by decide +kernel
theorem dX0_start_11 : decode cX0_start 11 = .ok (.iconst 1, 1) := by decide +kernel
theorem dX0_start_12 : decode cX0_start 12 = .ok (.iconst 3, 1) := by decide +kernel
theorem dX0_start_13 : decode cX0_start 13 = .ok (.invokevirtual 48, 3) := by decide +kernel
theorem dX0_start_16 : decode cX0_start 16 = .ok (.return_, 1) := by decide +kernel
theorem dX0_copyFrom_0 : decode cX0_copyFrom 0 = .ok (.aload_n 1, 1) := by decide +kernel
theorem dX0_copyFrom_1 : decode cX0_copyFrom 1 = .ok (.getfield 9, 3) := by decide +kernel
theorem dX0_copyFrom_4 : decode cX0_copyFrom 4 = .ok (.iconst 0, 1) := by decide +kernel
theorem dX0_copyFrom_5 : decode cX0_copyFrom 5 = .ok (.aload_n 0, 1) := by decide +kernel
theorem dX0_copyFrom_6 : decode cX0_copyFrom 6 = .ok (.getfield 9, 3) := by decide +kernel
theorem dX0_copyFrom_9 : decode cX0_copyFrom 9 = .ok (.iconst 0, 1) := by decide +kernel
theorem dX0_copyFrom_10 : decode cX0_copyFrom 10 = .ok (.bipush 6, 2) := by decide +kernel
theorem dX0_copyFrom_12 : decode cX0_copyFrom 12 = .ok (.invokestatic 52, 3) := by decide +kernel
theorem dX0_copyFrom_15 : decode cX0_copyFrom 15 = .ok (.aload_n 0, 1) := by decide +kernel
theorem dX0_copyFrom_16 : decode cX0_copyFrom 16 = .ok (.aload_n 1, 1) := by decide +kernel
theorem dX0_copyFrom_17 : decode cX0_copyFrom 17 = .ok (.getfield 13, 3) := by decide +kernel
theorem dX0_copyFrom_20 : decode cX0_copyFrom 20 = .ok (.putfield 13, 3) := by decide +kernel
theorem dX0_copyFrom_23 : decode cX0_copyFrom 23 = .ok (.aload_n 0, 1) := by decide +kernel
theorem dX0_copyFrom_24 : decode cX0_copyFrom 24 = .ok (.aload_n 1, 1) := by decide +kernel
theorem dX0_copyFrom_25 : decode cX0_copyFrom 25 = .ok (.getfield 17, 3) := by decide +kernel
theorem dX0_copyFrom_28 : decode cX0_copyFrom 28 = .ok (.putfield 17, 3) := by decide +kernel
theorem dX0_copyFrom_31 : decode cX0_copyFrom 31 = .ok (.aload_n 0, 1) := by decide +kernel
theorem dX0_copyFrom_32 : decode cX0_copyFrom 32 = .ok (.aload_n 1, 1) := by decide +kernel
theorem dX0_copyFrom_33 : decode cX0_copyFrom 33 = .ok (.getfield 20, 3) := by decide +kernel
theorem dX0_copyFrom_36 : decode cX0_copyFrom 36 = .ok (.putfield 20, 3) := by decide +kernel
theorem dX0_copyFrom_39 : decode cX0_copyFrom 39 = .ok (.aload_n 0, 1) := by decide +kernel
theorem dX0_copyFrom_40 : decode cX0_copyFrom 40 = .ok (.aload_n 1, 1) := by decide +kernel
theorem dX0_copyFrom_41 : decode cX0_copyFrom 41 = .ok (.getfield 23, 3) := by decide +kernel
theorem dX0_copyFrom_44 : decode cX0_copyFrom 44 = .ok (.putfield 23, 3) := by decide +kernel
theorem dX0_copyFrom_47 : decode cX0_copyFrom 47 = .ok (.aload_n 0, 1) := by decide +kernel
theorem dX0_copyFrom_48 : decode cX0_copyFrom 48 = .ok (.aload_n 1, 1) := by decide +kernel
theorem dX0_copyFrom_49 : decode cX0_copyFrom 49 = .ok (.getfield 26, 3) := by decide +kernel
theorem dX0_copyFrom_52 : decode cX0_copyFrom 52 = .ok (.putfield 26, 3) := by decide +kernel
theorem dX0_copyFrom_55 : decode cX0_copyFrom 55 = .ok (.aload_n 0, 1) := by decide +kernel
theorem dX0_copyFrom_56 : decode cX0_copyFrom 56 = .ok (.aload_n 1, 1) := by decide +kernel
theorem dX0_copyFrom_57 : decode cX0_copyFrom 57 = .ok (.getfield 29, 3) := by decide +kernel
theorem dX0_copyFrom_60 : decode cX0_copyFrom 60 = .ok (.putfield 29, 3) := by decide +kernel
theorem dX0_copyFrom_63 : decode cX0_copyFrom 63 = .ok (.aload_n 0, 1) := by decide +kernel
theorem dX0_copyFrom_64 : decode cX0_copyFrom 64 = .ok (.aload_n 1, 1) := by decide +kernel
theorem dX0_copyFrom_65 : decode cX0_copyFrom 65 = .ok (.getfield 32, 3) := by decide +kernel
theorem dX0_copyFrom_68 : decode cX0_copyFrom 68 = .ok (.putfield 32, 3) := by decide +kernel
theorem dX0_copyFrom_71 : decode cX0_copyFrom 71 = .ok (.aload_n 0, 1) := by decide +kernel
theorem dX0_copyFrom_72 : decode cX0_copyFrom 72 = .ok (.aload_n 1, 1) := by decide +kernel
theorem dX0_copyFrom_73 : decode cX0_copyFrom 73 = .ok (.getfield 35, 3) := by decide +kernel
theorem dX0_copyFrom_76 : decode cX0_copyFrom 76 = .ok (.putfield 35, 3) := by decide +kernel
theorem dX0_copyFrom_79 : decode cX0_copyFrom 79 = .ok (.aload_n 0, 1) := by decide +kernel
theorem dX0_copyFrom_80 : decode cX0_copyFrom 80 = .ok (.aload_n 1, 1) := by decide +kernel
theorem dX0_copyFrom_81 : decode cX0_copyFrom 81 = .ok (.getfield 39, 3) := by decide +kernel
theorem dX0_copyFrom_84 : decode cX0_copyFrom 84 = .ok (.putfield 39, 3) := by decide +kernel
theorem dX0_copyFrom_87 : decode cX0_copyFrom 87 = .ok (.aload_n 0, 1) := by decide +kernel
theorem dX0_copyFrom_88 : decode cX0_copyFrom 88 = .ok (.aload_n 1, 1) := by decide +kernel
theorem dX0_copyFrom_89 : decode cX0_copyFrom 89 = .ok (.getfield 42, 3) := by decide +kernel
theorem dX0_copyFrom_92 : decode cX0_copyFrom 92 = .ok (.putfield 42, 3) := by decide +kernel
theorem dX0_copyFrom_95 : decode cX0_copyFrom 95 = .ok (.aload_n 0, 1) := by decide +kernel
theorem dX0_copyFrom_96 : decode cX0_copyFrom 96 = .ok (.aload_n 1, 1) := by decide +kernel
theorem dX0_copyFrom_97 : decode cX0_copyFrom 97 = .ok (.getfield 45, 3) := by decide +kernel
theorem dX0_copyFrom_100 : decode cX0_copyFrom 100 = .ok (.putfield 45, 3) := by decide +kernel
theorem dX0_copyFrom_103 : decode cX0_copyFrom 103 = .ok (.return_, 1) := by decide +kernel
theorem dX0_isIn_0 : decode cX0_isIn 0 = .ok (.aload_n 0, 1) := by decide +kernel
theorem dX0_isIn_1 : decode cX0_isIn 1 = .ok (.getfield 35, 3) := by decide +kernel
theorem dX0_isIn_4 : decode cX0_isIn 4 = .ok (.ireturn, 1) := by decide +kernel
theorem dX0_time_0 : decode cX0_time 0 = .ok (.aload_n 0, 1) := by decide +kernel
theorem dX0_time_1 : decode cX0_time 1 = .ok (.getfield 35, 3) := by decide +kernel
theorem dX0_time_4 : decode cX0_time 4 = .ok (.ifCond .eq 17, 3) := by decide +kernel
theorem dX0_time_7 : decode cX0_time 7 = .ok (.aload_n 0, 1) := by decide +kernel
theorem dX0_time_8 : decode cX0_time 8 = .ok (.getfield 39, 3) := by decide +kernel
theorem dX0_time_11 : decode cX0_time 11 = .ok (.iconst 1, 1) := by decide +kernel
theorem dX0_time_12 : decode cX0_time 12 = .ok (.iadd, 1) := by decide +kernel
theorem dX0_time_13 : decode cX0_time 13 = .ok (.aload_n 0, 1) := by decide +kernel
theorem dX0_time_14 : decode cX0_time 14 = .ok (.getfield 32, 3) := by decide +kernel
theorem dX0_time_17 : decode cX0_time 17 = .ok (.iadd, 1) := by decide +kernel
theorem dX0_time_18 : decode cX0_time 18 = .ok (.goto 4, 3) := by decide +kernel
theorem dX0_time_21 : decode cX0_time 21 = .ok (.iconst (-1), 1) := by decide +kernel
theorem dX0_time_22 : decode cX0_time 22 = .ok (.ireturn, 1) := by decide +kernel
set_option maxRecDepth 20000 in
theorem ggX0_fact_X0_time : GoodIn wsX0_fact wsX0_time := goodIn_r _ [13, 6, 14, 5, 15, 16, 17, 18, 19, 20, 21, 22, 23, 24, 25, 26] (by decide +kernel) (by decide +kernel)
set_option maxRecDepth 20000 in
theorem gX0_fact_X0_time : GoodIn wsX0_fact (wsV RX0 58 RX0 yX0_time wsX0_time) := goodIn_app (goodIn_of _ (by decide +kernel)) ggX0_fact_X0_time
theorem dX0_fact_0 : decode cX0_fact 0 = .ok (.iload_n 1, 1) := by decide +kernel
theorem dX0_fact_1 : decode cX0_fact 1 = .ok (.tableswitch 95 0 7 #[47, 52, 57, 62, 67, 72, 85, 90], 47) := by decide +kernel
theorem dX0_fact_48 : decode cX0_fact 48 = .ok (.aload_n 0, 1) := by decide +kernel
theorem dX0_fact_49 : decode cX0_fact 49 = .ok (.getfield 20, 3) := by decide +kernel
theorem dX0_fact_52 : decode cX0_fact 52 = .ok (.ireturn, 1) := by decide +kernel
theorem dX0_fact_53 : decode cX0_fact 53 = .ok (.aload_n 0, 1) := by decide +kernel
theorem dX0_fact_54 : decode cX0_fact 54 = .ok (.getfield 23, 3) := by decide +kernel
theorem dX0_fact_57 : decode cX0_fact 57 = .ok (.ireturn, 1) := by decide +kernel
theorem dX0_fact_58 : decode cX0_fact 58 = .ok (.aload_n 0, 1) := by decide +kernel
theorem dX0_fact_59 : decode cX0_fact 59 = .ok (.getfield 26, 3) := by decide +kernel
theorem dX0_fact_62 : decode cX0_fact 62 = .ok (.ireturn, 1) := by decide +kernel
theorem dX0_fact_63 : decode cX0_fact 63 = .ok (.aload_n 0, 1) := by decide +kernel
theorem dX0_fact_64 : decode cX0_fact 64 = .ok (.getfield 29, 3) := by decide +kernel
theorem dX0_fact_67 : decode cX0_fact 67 = .ok (.ireturn, 1) := by decide +kernel
theorem dX0_fact_68 : decode cX0_fact 68 = .ok (.aload_n 0, 1) := by decide +kernel
theorem dX0_fact_69 : decode cX0_fact 69 = .ok (.getfield 32, 3) := by decide +kernel
theorem dX0_fact_72 : decode cX0_fact 72 = .ok (.ireturn, 1) := by decide +kernel
theorem dX0_fact_73 : decode cX0_fact 73 = .ok (.aload_n 0, 1) := by decide +kernel
theorem dX0_fact_74 : decode cX0_fact 74 = .ok (.getfield 35, 3) := by decide +kernel
theorem dX0_fact_77 : decode cX0_fact 77 = .ok (.ifCond .eq 7, 3) := by decide +kernel
theorem dX0_fact_80 : decode cX0_fact 80 = .ok (.iconst 1, 1) := by decide +kernel
theorem dX0_fact_81 : decode cX0_fact 81 = .ok (.goto 4, 3) := by decide +kernel
theorem dX0_fact_84 : decode cX0_fact 84 = .ok (.iconst 0, 1) := by decide +kernel
theorem dX0_fact_85 : decode cX0_fact 85 = .ok (.ireturn, 1) := by decide +kernel
theorem dX0_fact_86 : decode cX0_fact 86 = .ok (.aload_n 0, 1) := by decide +kernel
theorem dX0_fact_87 : decode cX0_fact 87 = .ok (.invokevirtual 58, 3) := by decide +kernel
theorem dX0_fact_90 : decode cX0_fact 90 = .ok (.ireturn, 1) := by decide +kernel
theorem dX0_fact_91 : decode cX0_fact 91 = .ok (.aload_n 0, 1) := by decide +kernel
theorem dX0_fact_92 : decode cX0_fact 92 = .ok (.getfield 42, 3) := by decide +kernel
theorem dX0_fact_95 : decode cX0_fact 95 = .ok (.ireturn, 1) := by decide +kernel
theorem dX0_fact_96 : decode cX0_fact 96 = .ok (.aload_n 0, 1) := by decide +kernel
theorem dX0_fact_97 : decode cX0_fact 97 = .ok (.getfield 45, 3) := by decide +kernel
theorem dX0_fact_100 : decode cX0_fact 100 = .ok (.ireturn, 1) := by decide +kernel
set_option maxRecDepth 20000 in
theorem ggX0_isAheadOf_X0_time : GoodIn wsX0_isAheadOf wsX0_time := goodIn_r _ [7, 1, 8, 9, 10, 11, 12, 13, 14, 15, 16, 17, 18, 19, 20, 21] (by decide +kernel) (by decide +kernel)
set_option maxRecDepth 20000 in
theorem gX0_isAheadOf_X0_time : GoodIn wsX0_isAheadOf (wsV RX0 58 RX0 yX0_time wsX0_time) := goodIn_app (goodIn_of _ (by decide +kernel)) ggX0_isAheadOf_X0_time
theorem dX0_isAheadOf_0 : decode cX0_isAheadOf 0 = .ok (.aload_n 0, 1) := by decide +kernel
theorem dX0_isAheadOf_1 : decode cX0_isAheadOf 1 = .ok (.getfield 35, 3) := by decide +kernel
theorem dX0_isAheadOf_4 : decode cX0_isAheadOf 4 = .ok (.ifCond .eq 27, 3) := by decide +kernel
theorem dX0_isAheadOf_7 : decode cX0_isAheadOf 7 = .ok (.aload_n 1, 1) := by decide +kernel
theorem dX0_isAheadOf_8 : decode cX0_isAheadOf 8 = .ok (.getfield 35, 3) := by decide +kernel
theorem dX0_isAheadOf_11 : decode cX0_isAheadOf 11 = .ok (.ifCond .eq 14, 3) := by decide +kernel
theorem dX0_isAheadOf_14 : decode cX0_isAheadOf 14 = .ok (.aload_n 0, 1) := by decide +kernel
theorem dX0_isAheadOf_15 : decode cX0_isAheadOf 15 = .ok (.invokevirtual 58, 3) := by decide +kernel
theorem dX0_isAheadOf_18 : decode cX0_isAheadOf 18 = .ok (.aload_n 1, 1) := by decide +kernel
theorem dX0_isAheadOf_19 : decode cX0_isAheadOf 19 = .ok (.invokevirtual 58, 3) := by decide +kernel
theorem dX0_isAheadOf_22 : decode cX0_isAheadOf 22 = .ok (.if_icmp .ge 7, 3) := by decide +kernel
theorem dX0_isAheadOf_25 : decode cX0_isAheadOf 25 = .ok (.iconst 1, 1) := by decide +kernel
theorem dX0_isAheadOf_26 : decode cX0_isAheadOf 26 = .ok (.goto 4, 3) := by decide +kernel
theorem dX0_isAheadOf_29 : decode cX0_isAheadOf 29 = .ok (.iconst 0, 1) := by decide +kernel
theorem dX0_isAheadOf_30 : decode cX0_isAheadOf 30 = .ok (.ireturn, 1) := by decide +kernel
theorem dX0_isAheadOf_31 : decode cX0_isAheadOf 31 = .ok (.aload_n 1, 1) := by decide +kernel
theorem dX0_isAheadOf_32 : decode cX0_isAheadOf 32 = .ok (.getfield 35, 3) := by decide +kernel
theorem dX0_isAheadOf_35 : decode cX0_isAheadOf 35 = .ok (.ifCond .ne 18, 3) := by decide +kernel
theorem dX0_isAheadOf_38 : decode cX0_isAheadOf 38 = .ok (.aload_n 0, 1) := by decide +kernel
theorem dX0_isAheadOf_39 : decode cX0_isAheadOf 39 = .ok (.getfield 20, 3) := by decide +kernel
theorem dX0_isAheadOf_42 : decode cX0_isAheadOf 42 = .ok (.aload_n 1, 1) := by decide +kernel
theorem dX0_isAheadOf_43 : decode cX0_isAheadOf 43 = .ok (.getfield 20, 3) := by decide +kernel
theorem dX0_isAheadOf_46 : decode cX0_isAheadOf 46 = .ok (.if_icmp .le 7, 3) := by decide +kernel
theorem dX0_isAheadOf_49 : decode cX0_isAheadOf 49 = .ok (.iconst 1, 1) := by decide +kernel
theorem dX0_isAheadOf_50 : decode cX0_isAheadOf 50 = .ok (.goto 4, 3) := by decide +kernel
theorem dX0_isAheadOf_53 : decode cX0_isAheadOf 53 = .ok (.iconst 0, 1) := by decide +kernel
theorem dX0_isAheadOf_54 : decode cX0_isAheadOf 54 = .ok (.ireturn, 1) := by decide +kernel
theorem dX0_takePattern_0 : decode cX0_takePattern 0 = .ok (.iload_n 1, 1) := by decide +kernel
theorem dX0_takePattern_1 : decode cX0_takePattern 1 = .ok (.iconst 1, 1) := by decide +kernel
theorem dX0_takePattern_2 : decode cX0_takePattern 2 = .ok (.if_icmp .lt 9, 3) := by decide +kernel
theorem dX0_takePattern_5 : decode cX0_takePattern 5 = .ok (.iload_n 1, 1) := by decide +kernel
theorem dX0_takePattern_6 : decode cX0_takePattern 6 = .ok (.bipush 6, 2) := by decide +kernel
theorem dX0_takePattern_8 : decode cX0_takePattern 8 = .ok (.if_icmp .le 4, 3) := by decide +kernel
theorem dX0_takePattern_11 : decode cX0_takePattern 11 = .ok (.return_, 1) := by decide +kernel
theorem dX0_takePattern_12 : decode cX0_takePattern 12 = .ok (.iload_n 2, 1) := by decide +kernel
theorem dX0_takePattern_13 : decode cX0_takePattern 13 = .ok (.istore_n 3, 1) := by decide +kernel
theorem dX0_takePattern_14 : decode cX0_takePattern 14 = .ok (.iload_n 1, 1) := by decide +kernel
theorem dX0_takePattern_15 : decode cX0_takePattern 15 = .ok (.iconst 1, 1) := by decide +kernel
theorem dX0_takePattern_16 : decode cX0_takePattern 16 = .ok (.isub, 1) := by decide +kernel
theorem dX0_takePattern_17 : decode cX0_takePattern 17 = .ok (.istore 4, 2) := by decide +kernel
theorem dX0_takePattern_19 : decode cX0_takePattern 19 = .ok (.iload 4, 2) := by decide +kernel
theorem dX0_takePattern_21 : decode cX0_takePattern 21 = .ok (.ifCond .lt 25, 3) := by decide +kernel
theorem dX0_takePattern_24 : decode cX0_takePattern 24 = .ok (.aload_n 0, 1) := by decide +kernel
theorem dX0_takePattern_25 : decode cX0_takePattern 25 = .ok (.getfield 9, 3) := by decide +kernel
theorem dX0_takePattern_28 : decode cX0_takePattern 28 = .ok (.iload 4, 2) := by decide +kernel
theorem dX0_takePattern_30 : decode cX0_takePattern 30 = .ok (.iload_n 3, 1) := by decide +kernel
theorem dX0_takePattern_31 : decode cX0_takePattern 31 = .ok (.bipush 10, 2) := by decide +kernel
theorem dX0_takePattern_33 : decode cX0_takePattern 33 = .ok (.irem, 1) := by decide +kernel
theorem dX0_takePattern_34 : decode cX0_takePattern 34 = .ok (.iastore, 1) := by decide +kernel
theorem dX0_takePattern_35 : decode cX0_takePattern 35 = .ok (.iload_n 3, 1) := by decide +kernel
theorem dX0_takePattern_36 : decode cX0_takePattern 36 = .ok (.bipush 10, 2) := by decide +kernel
theorem dX0_takePattern_38 : decode cX0_takePattern 38 = .ok (.idiv, 1) := by decide +kernel
theorem dX0_takePattern_39 : decode cX0_takePattern 39 = .ok (.istore_n 3, 1) := by decide +kernel
theorem dX0_takePattern_40 : decode cX0_takePattern 40 = .ok (.iinc 4 (-1), 3) := by decide +kernel
theorem dX0_takePattern_43 : decode cX0_takePattern 43 = .ok (.goto (-24), 3) := by decide +kernel
theorem dX0_takePattern_46 : decode cX0_takePattern 46 = .ok (.aload_n 0, 1) := by decide +kernel
theorem dX0_takePattern_47 : decode cX0_takePattern 47 = .ok (.iload_n 1, 1) := by decide +kernel
theorem dX0_takePattern_48 : decode cX0_takePattern 48 = .ok (.putfield 13, 3) := by decide +kernel
theorem dX0_takePattern_51 : decode cX0_takePattern 51 = .ok (.return_, 1) := by decide +kernel
theorem dX0_dryOut_0 : decode cX0_dryOut 0 = .ok (.aload_n 0, 1) := by decide +kernel
theorem dX0_dryOut_1 : decode cX0_dryOut 1 = .ok (.getfield 29, 3) := by decide +kernel
theorem dX0_dryOut_4 : decode cX0_dryOut 4 = .ok (.istore_n 1, 1) := by decide +kernel
theorem dX0_dryOut_5 : decode cX0_dryOut 5 = .ok (.aload_n 0, 1) := by decide +kernel
theorem dX0_dryOut_6 : decode cX0_dryOut 6 = .ok (.iconst 0, 1) := by decide +kernel
theorem dX0_dryOut_7 : decode cX0_dryOut 7 = .ok (.putfield 29, 3) := by decide +kernel
theorem dX0_dryOut_10 : decode cX0_dryOut 10 = .ok (.aload_n 0, 1) := by decide +kernel
theorem dX0_dryOut_11 : decode cX0_dryOut 11 = .ok (.dup, 1) := by decide +kernel
theorem dX0_dryOut_12 : decode cX0_dryOut 12 = .ok (.getfield 32, 3) := by decide +kernel
theorem dX0_dryOut_15 : decode cX0_dryOut 15 = .ok (.iconst 4, 1) := by decide +kernel
theorem dX0_dryOut_16 : decode cX0_dryOut 16 = .ok (.iadd, 1) := by decide +kernel
theorem dX0_dryOut_17 : decode cX0_dryOut 17 = .ok (.putfield 32, 3) := by decide +kernel
theorem dX0_dryOut_20 : decode cX0_dryOut 20 = .ok (.iload_n 1, 1) := by decide +kernel
theorem dX0_dryOut_21 : decode cX0_dryOut 21 = .ok (.ireturn, 1) := by decide +kernel
set_option maxRecDepth 20000 in
theorem ggX0_letTickGoBy_X0_strokeIn : GoodIn wsX0_letTickGoBy wsX0_strokeIn := goodIn_r _ [8, 9, 10, 11, 12, 13, 14, 64, 65, 66, 67, 68, 69, 70, 71, 72, 73, 74, 75] (by decide +kernel) (by decide +kernel)
set_option maxRecDepth 20000 in
theorem gX0_letTickGoBy_X0_strokeIn : GoodIn wsX0_letTickGoBy (wsV RX0 62 RX0 yX0_strokeIn wsX0_strokeIn) := goodIn_app (goodIn_of _ (by decide +kernel)) ggX0_letTickGoBy_X0_strokeIn
set_option maxRecDepth 20000 in
theorem ggX0_letTickGoBy_X0_forceOf : GoodIn wsX0_letTickGoBy wsX0_forceOf := goodIn_r _ [18, 19, 20, 21, 22, 23, 24, 25, 26, 27, 28, 7, 29, 30, 64, 65, 66, 67, 68, 69, 70, 71, 72, 73, 74, 75] (by decide +kernel) (by decide +kernel)
set_option maxRecDepth 20000 in
theorem gX0_letTickGoBy_X0_forceOf : GoodIn wsX0_letTickGoBy (wsV RX0 66 RX0 yX0_forceOf wsX0_forceOf) := goodIn_app (goodIn_of _ (by decide +kernel)) ggX0_letTickGoBy_X0_forceOf
set_option maxRecDepth 20000 in
theorem ggX0_letTickGoBy_X0_drift : GoodIn wsX0_letTickGoBy wsX0_drift := goodIn_r _ [34, 35, 19, 36, 37, 38, 39, 40, 64, 65, 66, 67, 68, 69, 70, 71, 72, 73, 74, 75] (by decide +kernel) (by decide +kernel)
set_option maxRecDepth 20000 in
theorem gX0_letTickGoBy_X0_drift : GoodIn wsX0_letTickGoBy (wsV RX0 69 RX0 yX0_drift wsX0_drift) := goodIn_app (goodIn_of _ (by decide +kernel)) ggX0_letTickGoBy_X0_drift
set_option maxRecDepth 20000 in
theorem ggX0_letTickGoBy_X0_advance : GoodIn wsX0_letTickGoBy wsX0_advance := goodIn_r _ [44, 35, 19, 45, 46, 24, 47, 48, 2, 49, 50, 51, 52, 37, 38, 39, 40, 53, 54, 55, 56, 57, 58, 59, 60, 61, 62, 7, 63, 21, 64, 65, 66, 67, 68, 69, 70, 71, 72, 73, 74, 75, 76, 77, 78, 79] (by decide +kernel) (by decide +kernel)
set_option maxRecDepth 20000 in
theorem gX0_letTickGoBy_X0_advance : GoodIn wsX0_letTickGoBy (wsV RX0 72 RX0 yX0_advance wsX0_advance) := goodIn_app (goodIn_of _ (by decide +kernel)) ggX0_letTickGoBy_X0_advance
set_option maxRecDepth 20000 in
theorem ggX0_letTickGoBy_X0_soak : GoodIn wsX0_letTickGoBy wsX0_soak := goodIn_r _ [63, 21, 49, 50, 24, 51, 64, 65, 66, 67, 68, 69, 70, 71, 72, 73, 74, 75] (by decide +kernel) (by decide +kernel)
set_option maxRecDepth 20000 in
theorem gX0_letTickGoBy_X0_soak : GoodIn wsX0_letTickGoBy (wsV RX0 76 RX0 yX0_soak wsX0_soak) := goodIn_app (goodIn_of _ (by decide +kernel)) ggX0_letTickGoBy_X0_soak
theorem dX0_letTickGoBy_0 : decode cX0_letTickGoBy 0 = .ok (.aload_n 0, 1) := by decide +kernel
theorem dX0_letTickGoBy_1 : decode cX0_letTickGoBy 1 = .ok (.getfield 35, 3) := by decide +kernel
theorem dX0_letTickGoBy_4 : decode cX0_letTickGoBy 4 = .ok (.ifCond .eq 4, 3) := by decide +kernel
theorem dX0_letTickGoBy_7 : decode cX0_letTickGoBy 7 = .ok (.return_, 1) := by decide +kernel
theorem dX0_letTickGoBy_8 : decode cX0_letTickGoBy 8 = .ok (.aload_n 0, 1) := by decide +kernel
theorem dX0_letTickGoBy_9 : decode cX0_letTickGoBy 9 = .ok (.aload_n 0, 1) := by decide +kernel
theorem dX0_letTickGoBy_10 : decode cX0_letTickGoBy 10 = .ok (.iload_n 2, 1) := by decide +kernel
theorem dX0_letTickGoBy_11 : decode cX0_letTickGoBy 11 = .ok (.invokevirtual 62, 3) := by decide +kernel
theorem dX0_letTickGoBy_14 : decode cX0_letTickGoBy 14 = .ok (.invokevirtual 66, 3) := by decide +kernel
theorem dX0_letTickGoBy_17 : decode cX0_letTickGoBy 17 = .ok (.istore_n 3, 1) := by decide +kernel
theorem dX0_letTickGoBy_18 : decode cX0_letTickGoBy 18 = .ok (.aload_n 0, 1) := by decide +kernel
theorem dX0_letTickGoBy_19 : decode cX0_letTickGoBy 19 = .ok (.invokevirtual 69, 3) := by decide +kernel
theorem dX0_letTickGoBy_22 : decode cX0_letTickGoBy 22 = .ok (.aload_n 0, 1) := by decide +kernel
theorem dX0_letTickGoBy_23 : decode cX0_letTickGoBy 23 = .ok (.aload_n 1, 1) := by decide +kernel
theorem dX0_letTickGoBy_24 : decode cX0_letTickGoBy 24 = .ok (.iload_n 3, 1) := by decide +kernel
theorem dX0_letTickGoBy_25 : decode cX0_letTickGoBy 25 = .ok (.invokevirtual 72, 3) := by decide +kernel
theorem dX0_letTickGoBy_28 : decode cX0_letTickGoBy 28 = .ok (.iload_n 2, 1) := by decide +kernel
theorem dX0_letTickGoBy_29 : decode cX0_letTickGoBy 29 = .ok (.iconst 4, 1) := by decide +kernel
theorem dX0_letTickGoBy_30 : decode cX0_letTickGoBy 30 = .ok (.irem, 1) := by decide +kernel
theorem dX0_letTickGoBy_31 : decode cX0_letTickGoBy 31 = .ok (.ifCond .ne 8, 3) := by decide +kernel
theorem dX0_letTickGoBy_34 : decode cX0_letTickGoBy 34 = .ok (.aload_n 0, 1) := by decide +kernel
theorem dX0_letTickGoBy_35 : decode cX0_letTickGoBy 35 = .ok (.iconst 1, 1) := by decide +kernel
theorem dX0_letTickGoBy_36 : decode cX0_letTickGoBy 36 = .ok (.invokevirtual 76, 3) := by decide +kernel
theorem dX0_letTickGoBy_39 : decode cX0_letTickGoBy 39 = .ok (.aload_n 0, 1) := by decide +kernel
theorem dX0_letTickGoBy_40 : decode cX0_letTickGoBy 40 = .ok (.getfield 20, 3) := by decide +kernel
theorem dX0_letTickGoBy_43 : decode cX0_letTickGoBy 43 = .ok (.sipush 200, 3) := by decide +kernel
theorem dX0_letTickGoBy_46 : decode cX0_letTickGoBy 46 = .ok (.if_icmp .ne 13, 3) := by decide +kernel
theorem dX0_letTickGoBy_49 : decode cX0_letTickGoBy 49 = .ok (.aload_n 0, 1) := by decide +kernel
theorem dX0_letTickGoBy_50 : decode cX0_letTickGoBy 50 = .ok (.iconst 1, 1) := by decide +kernel
theorem dX0_letTickGoBy_51 : decode cX0_letTickGoBy 51 = .ok (.putfield 35, 3) := by decide +kernel
theorem dX0_letTickGoBy_54 : decode cX0_letTickGoBy 54 = .ok (.aload_n 0, 1) := by decide +kernel
theorem dX0_letTickGoBy_55 : decode cX0_letTickGoBy 55 = .ok (.iload_n 2, 1) := by decide +kernel
theorem dX0_letTickGoBy_56 : decode cX0_letTickGoBy 56 = .ok (.putfield 39, 3) := by decide +kernel
theorem dX0_letTickGoBy_59 : decode cX0_letTickGoBy 59 = .ok (.return_, 1) := by decide +kernel
set_option maxRecDepth 20000 in
theorem ggX0_strokeIn_J9_floorMod_7cf53 : GoodIn wsX0_strokeIn wsJ9_floorMod_7cf53 := goodIn_r _ [6] (by decide +kernel) (by decide +kernel)
set_option maxRecDepth 20000 in
theorem gX0_strokeIn_J9_floorMod_7cf53 : GoodIn wsX0_strokeIn (va_wsS RX0 82 yJ9_floorMod_7cf53 wsJ9_floorMod_7cf53) := goodIn_app (goodIn_of _ (by decide +kernel)) ggX0_strokeIn_J9_floorMod_7cf53
theorem dX0_strokeIn_0 : decode cX0_strokeIn 0 = .ok (.aload_n 0, 1) := by decide +kernel
theorem dX0_strokeIn_1 : decode cX0_strokeIn 1 = .ok (.getfield 13, 3) := by decide +kernel
theorem dX0_strokeIn_4 : decode cX0_strokeIn 4 = .ok (.iconst 1, 1) := by decide +kernel
theorem dX0_strokeIn_5 : decode cX0_strokeIn 5 = .ok (.if_icmp .lt 12, 3) := by decide +kernel
theorem dX0_strokeIn_8 : decode cX0_strokeIn 8 = .ok (.aload_n 0, 1) := by decide +kernel
theorem dX0_strokeIn_9 : decode cX0_strokeIn 9 = .ok (.getfield 13, 3) := by decide +kernel
theorem dX0_strokeIn_12 : decode cX0_strokeIn 12 = .ok (.bipush 6, 2) := by decide +kernel
theorem dX0_strokeIn_14 : decode cX0_strokeIn 14 = .ok (.if_icmp .le 5, 3) := by decide +kernel
theorem dX0_strokeIn_17 : decode cX0_strokeIn 17 = .ok (.iconst 0, 1) := by decide +kernel
theorem dX0_strokeIn_18 : decode cX0_strokeIn 18 = .ok (.ireturn, 1) := by decide +kernel
theorem dX0_strokeIn_19 : decode cX0_strokeIn 19 = .ok (.aload_n 0, 1) := by decide +kernel
theorem dX0_strokeIn_20 : decode cX0_strokeIn 20 = .ok (.getfield 9, 3) := by decide +kernel
theorem dX0_strokeIn_23 : decode cX0_strokeIn 23 = .ok (.iload_n 1, 1) := by decide +kernel
theorem dX0_strokeIn_24 : decode cX0_strokeIn 24 = .ok (.aload_n 0, 1) := by decide +kernel
theorem dX0_strokeIn_25 : decode cX0_strokeIn 25 = .ok (.getfield 13, 3) := by decide +kernel
theorem dX0_strokeIn_28 : decode cX0_strokeIn 28 = .ok (.invokestatic 82, 3) := by decide +kernel
theorem dX0_strokeIn_31 : decode cX0_strokeIn 31 = .ok (.iaload, 1) := by decide +kernel
theorem dX0_strokeIn_32 : decode cX0_strokeIn 32 = .ok (.ireturn, 1) := by decide +kernel
set_option maxRecDepth 20000 in
theorem ggX0_forceOf_X0_pushOf : GoodIn wsX0_forceOf wsX0_pushOf := goodIn_r _ [12, 13, 14, 15, 16, 17, 18, 19, 20, 21, 22, 23, 24, 25] (by decide +kernel) (by decide +kernel)
set_option maxRecDepth 20000 in
theorem gX0_forceOf_X0_pushOf : GoodIn wsX0_forceOf (wsV RX0 88 RX0 yX0_pushOf wsX0_pushOf) := goodIn_app (goodIn_of _ (by decide +kernel)) ggX0_forceOf_X0_pushOf
theorem dX0_forceOf_0 : decode cX0_forceOf 0 = .ok (.iload_n 1, 1) := by decide +kernel
theorem dX0_forceOf_1 : decode cX0_forceOf 1 = .ok (.iconst 1, 1) := by decide +kernel
theorem dX0_forceOf_2 : decode cX0_forceOf 2 = .ok (.if_icmp .ne 16, 3) := by decide +kernel
theorem dX0_forceOf_5 : decode cX0_forceOf 5 = .ok (.aload_n 0, 1) := by decide +kernel
theorem dX0_forceOf_6 : decode cX0_forceOf 6 = .ok (.dup, 1) := by decide +kernel
theorem dX0_forceOf_7 : decode cX0_forceOf 7 = .ok (.getfield 26, 3) := by decide +kernel
theorem dX0_forceOf_10 : decode cX0_forceOf 10 = .ok (.iconst 1, 1) := by decide +kernel
theorem dX0_forceOf_11 : decode cX0_forceOf 11 = .ok (.iadd, 1) := by decide +kernel
theorem dX0_forceOf_12 : decode cX0_forceOf 12 = .ok (.putfield 26, 3) := by decide +kernel
theorem dX0_forceOf_15 : decode cX0_forceOf 15 = .ok (.goto 18, 3) := by decide +kernel
theorem dX0_forceOf_18 : decode cX0_forceOf 18 = .ok (.iload_n 1, 1) := by decide +kernel
theorem dX0_forceOf_19 : decode cX0_forceOf 19 = .ok (.iconst 2, 1) := by decide +kernel
theorem dX0_forceOf_20 : decode cX0_forceOf 20 = .ok (.if_icmp .ne 13, 3) := by decide +kernel
theorem dX0_forceOf_23 : decode cX0_forceOf 23 = .ok (.aload_n 0, 1) := by decide +kernel
theorem dX0_forceOf_24 : decode cX0_forceOf 24 = .ok (.dup, 1) := by decide +kernel
theorem dX0_forceOf_25 : decode cX0_forceOf 25 = .ok (.getfield 26, 3) := by decide +kernel
theorem dX0_forceOf_28 : decode cX0_forceOf 28 = .ok (.iconst 1, 1) := by decide +kernel
theorem dX0_forceOf_29 : decode cX0_forceOf 29 = .ok (.isub, 1) := by decide +kernel
theorem dX0_forceOf_30 : decode cX0_forceOf 30 = .ok (.putfield 26, 3) := by decide +kernel
theorem dX0_forceOf_33 : decode cX0_forceOf 33 = .ok (.aload_n 0, 1) := by decide +kernel
theorem dX0_forceOf_34 : decode cX0_forceOf 34 = .ok (.getfield 26, 3) := by decide +kernel
theorem dX0_forceOf_37 : decode cX0_forceOf 37 = .ok (.iconst 4, 1) := by decide +kernel
theorem dX0_forceOf_38 : decode cX0_forceOf 38 = .ok (.if_icmp .gt 12, 3) := by decide +kernel
theorem dX0_forceOf_41 : decode cX0_forceOf 41 = .ok (.aload_n 0, 1) := by decide +kernel
theorem dX0_forceOf_42 : decode cX0_forceOf 42 = .ok (.getfield 26, 3) := by decide +kernel
theorem dX0_forceOf_45 : decode cX0_forceOf 45 = .ok (.bipush (-4), 2) := by decide +kernel
theorem dX0_forceOf_47 : decode cX0_forceOf 47 = .ok (.if_icmp .ge 20, 3) := by decide +kernel
theorem dX0_forceOf_50 : decode cX0_forceOf 50 = .ok (.aload_n 0, 1) := by decide +kernel
theorem dX0_forceOf_51 : decode cX0_forceOf 51 = .ok (.iconst 0, 1) := by decide +kernel
theorem dX0_forceOf_52 : decode cX0_forceOf 52 = .ok (.putfield 26, 3) := by decide +kernel
theorem dX0_forceOf_55 : decode cX0_forceOf 55 = .ok (.aload_n 0, 1) := by decide +kernel
theorem dX0_forceOf_56 : decode cX0_forceOf 56 = .ok (.dup, 1) := by decide +kernel
theorem dX0_forceOf_57 : decode cX0_forceOf 57 = .ok (.getfield 42, 3) := by decide +kernel
theorem dX0_forceOf_60 : decode cX0_forceOf 60 = .ok (.iconst 1, 1) := by decide +kernel
theorem dX0_forceOf_61 : decode cX0_forceOf 61 = .ok (.iadd, 1) := by decide +kernel
theorem dX0_forceOf_62 : decode cX0_forceOf 62 = .ok (.putfield 42, 3) := by decide +kernel
theorem dX0_forceOf_65 : decode cX0_forceOf 65 = .ok (.iconst 0, 1) := by decide +kernel
theorem dX0_forceOf_66 : decode cX0_forceOf 66 = .ok (.ireturn, 1) := by decide +kernel
theorem dX0_forceOf_67 : decode cX0_forceOf 67 = .ok (.iconst 0, 1) := by decide +kernel
theorem dX0_forceOf_68 : decode cX0_forceOf 68 = .ok (.aload_n 0, 1) := by decide +kernel
theorem dX0_forceOf_69 : decode cX0_forceOf 69 = .ok (.iload_n 1, 1) := by decide +kernel
theorem dX0_forceOf_70 : decode cX0_forceOf 70 = .ok (.invokevirtual 88, 3) := by decide +kernel
theorem dX0_forceOf_73 : decode cX0_forceOf 73 = .ok (.aload_n 0, 1) := by decide +kernel
theorem dX0_forceOf_74 : decode cX0_forceOf 74 = .ok (.getfield 29, 3) := by decide +kernel
theorem dX0_forceOf_77 : decode cX0_forceOf 77 = .ok (.bipush 6, 2) := by decide +kernel
theorem dX0_forceOf_79 : decode cX0_forceOf 79 = .ok (.idiv, 1) := by decide +kernel
theorem dX0_forceOf_80 : decode cX0_forceOf 80 = .ok (.isub, 1) := by decide +kernel
theorem dX0_forceOf_81 : decode cX0_forceOf 81 = .ok (.invokestatic 91, 3) := by decide +kernel
theorem dX0_forceOf_84 : decode cX0_forceOf 84 = .ok (.ireturn, 1) := by decide +kernel
theorem dX0_pushOf_0 : decode cX0_pushOf 0 = .ok (.iload_n 1, 1) := by decide +kernel
theorem dX0_pushOf_1 : decode cX0_pushOf 1 = .ok (.iconst 3, 1) := by decide +kernel
theorem dX0_pushOf_2 : decode cX0_pushOf 2 = .ok (.if_icmp .ne 8, 3) := by decide +kernel
theorem dX0_pushOf_5 : decode cX0_pushOf 5 = .ok (.aload_n 0, 1) := by decide +kernel
theorem dX0_pushOf_6 : decode cX0_pushOf 6 = .ok (.getfield 17, 3) := by decide +kernel
theorem dX0_pushOf_9 : decode cX0_pushOf 9 = .ok (.ireturn, 1) := by decide +kernel
theorem dX0_pushOf_10 : decode cX0_pushOf 10 = .ok (.iload_n 1, 1) := by decide +kernel
theorem dX0_pushOf_11 : decode cX0_pushOf 11 = .ok (.ifCond .ne 7, 3) := by decide +kernel
theorem dX0_pushOf_14 : decode cX0_pushOf 14 = .ok (.iconst 0, 1) := by decide +kernel
theorem dX0_pushOf_15 : decode cX0_pushOf 15 = .ok (.goto 9, 3) := by decide +kernel
theorem dX0_pushOf_18 : decode cX0_pushOf 18 = .ok (.aload_n 0, 1) := by decide +kernel
theorem dX0_pushOf_19 : decode cX0_pushOf 19 = .ok (.getfield 17, 3) := by decide +kernel
theorem dX0_pushOf_22 : decode cX0_pushOf 22 = .ok (.iconst 2, 1) := by decide +kernel
theorem dX0_pushOf_23 : decode cX0_pushOf 23 = .ok (.idiv, 1) := by decide +kernel
theorem dX0_pushOf_24 : decode cX0_pushOf 24 = .ok (.ireturn, 1) := by decide +kernel
set_option maxRecDepth 20000 in
theorem ggX0_drift_X2_isLane : GoodIn wsX0_drift wsX2_isLane := goodIn_r _ [7] (by decide +kernel) (by decide +kernel)
set_option maxRecDepth 20000 in
theorem gX0_drift_X2_isLane : GoodIn wsX0_drift (va_wsS RX0 94 yX2_isLane wsX2_isLane) := goodIn_app (goodIn_of _ (by decide +kernel)) ggX0_drift_X2_isLane
theorem dX0_drift_0 : decode cX0_drift 0 = .ok (.aload_n 0, 1) := by decide +kernel
theorem dX0_drift_1 : decode cX0_drift 1 = .ok (.getfield 23, 3) := by decide +kernel
theorem dX0_drift_4 : decode cX0_drift 4 = .ok (.istore_n 1, 1) := by decide +kernel
theorem dX0_drift_5 : decode cX0_drift 5 = .ok (.aload_n 0, 1) := by decide +kernel
theorem dX0_drift_6 : decode cX0_drift 6 = .ok (.getfield 26, 3) := by decide +kernel
theorem dX0_drift_9 : decode cX0_drift 9 = .ok (.iconst 2, 1) := by decide +kernel
theorem dX0_drift_10 : decode cX0_drift 10 = .ok (.if_icmp .lt 13, 3) := by decide +kernel
theorem dX0_drift_13 : decode cX0_drift 13 = .ok (.aload_n 0, 1) := by decide +kernel
theorem dX0_drift_14 : decode cX0_drift 14 = .ok (.getfield 23, 3) := by decide +kernel
theorem dX0_drift_17 : decode cX0_drift 17 = .ok (.iconst 1, 1) := by decide +kernel
theorem dX0_drift_18 : decode cX0_drift 18 = .ok (.iadd, 1) := by decide +kernel
theorem dX0_drift_19 : decode cX0_drift 19 = .ok (.istore_n 1, 1) := by decide +kernel
theorem dX0_drift_20 : decode cX0_drift 20 = .ok (.goto 19, 3) := by decide +kernel
theorem dX0_drift_23 : decode cX0_drift 23 = .ok (.aload_n 0, 1) := by decide +kernel
theorem dX0_drift_24 : decode cX0_drift 24 = .ok (.getfield 26, 3) := by decide +kernel
theorem dX0_drift_27 : decode cX0_drift 27 = .ok (.bipush (-2), 2) := by decide +kernel
theorem dX0_drift_29 : decode cX0_drift 29 = .ok (.if_icmp .gt 10, 3) := by decide +kernel
theorem dX0_drift_32 : decode cX0_drift 32 = .ok (.aload_n 0, 1) := by decide +kernel
theorem dX0_drift_33 : decode cX0_drift 33 = .ok (.getfield 23, 3) := by decide +kernel
theorem dX0_drift_36 : decode cX0_drift 36 = .ok (.iconst 1, 1) := by decide +kernel
theorem dX0_drift_37 : decode cX0_drift 37 = .ok (.isub, 1) := by decide +kernel
theorem dX0_drift_38 : decode cX0_drift 38 = .ok (.istore_n 1, 1) := by decide +kernel
theorem dX0_drift_39 : decode cX0_drift 39 = .ok (.iload_n 1, 1) := by decide +kernel
theorem dX0_drift_40 : decode cX0_drift 40 = .ok (.invokestatic 94, 3) := by decide +kernel
theorem dX0_drift_43 : decode cX0_drift 43 = .ok (.ifCond .eq 11, 3) := by decide +kernel
theorem dX0_drift_46 : decode cX0_drift 46 = .ok (.aload_n 0, 1) := by decide +kernel
theorem dX0_drift_47 : decode cX0_drift 47 = .ok (.iload_n 1, 1) := by decide +kernel
theorem dX0_drift_48 : decode cX0_drift 48 = .ok (.putfield 23, 3) := by decide +kernel
theorem dX0_drift_51 : decode cX0_drift 51 = .ok (.goto 13, 3) := by decide +kernel
theorem dX0_drift_54 : decode cX0_drift 54 = .ok (.aload_n 0, 1) := by decide +kernel
theorem dX0_drift_55 : decode cX0_drift 55 = .ok (.dup, 1) := by decide +kernel
theorem dX0_drift_56 : decode cX0_drift 56 = .ok (.getfield 32, 3) := by decide +kernel
theorem dX0_drift_59 : decode cX0_drift 59 = .ok (.iconst 3, 1) := by decide +kernel
theorem dX0_drift_60 : decode cX0_drift 60 = .ok (.iadd, 1) := by decide +kernel
theorem dX0_drift_61 : decode cX0_drift 61 = .ok (.putfield 32, 3) := by decide +kernel
theorem dX0_drift_64 : decode cX0_drift 64 = .ok (.return_, 1) := by decide +kernel
set_option maxRecDepth 20000 in
theorem ggX0_advance_X2_isLane : GoodIn wsX0_advance wsX2_isLane := goodIn_r _ [16] (by decide +kernel) (by decide +kernel)
set_option maxRecDepth 20000 in
theorem gX0_advance_X2_isLane : GoodIn wsX0_advance (va_wsS RX0 94 yX2_isLane wsX2_isLane) := goodIn_app (goodIn_of _ (by decide +kernel)) ggX0_advance_X2_isLane
set_option maxRecDepth 20000 in
theorem ggX0_advance_X2_firstStop : GoodIn wsX0_advance wsX2_firstStop := goodIn_r _ [20, 21, 22, 23, 42, 43, 44, 45] (by decide +kernel) (by decide +kernel)
set_option maxRecDepth 20000 in
theorem gX0_advance_X2_firstStop : GoodIn wsX0_advance (wsV RX0 104 RX2 yX2_firstStop wsX2_firstStop) := goodIn_app (goodIn_of _ (by decide +kernel)) ggX0_advance_X2_firstStop
set_option maxRecDepth 20000 in
theorem ggX0_advance_X0_soak : GoodIn wsX0_advance wsX0_soak := goodIn_r _ [28, 29, 9, 10, 5, 11, 30, 31, 32, 33, 34, 35, 36, 37, 38, 39, 40, 41] (by decide +kernel) (by decide +kernel)
set_option maxRecDepth 20000 in
theorem gX0_advance_X0_soak : GoodIn wsX0_advance (wsV RX0 76 RX0 yX0_soak wsX0_soak) := goodIn_app (goodIn_of _ (by decide +kernel)) ggX0_advance_X0_soak
theorem dX0_advance_0 : decode cX0_advance 0 = .ok (.aload_n 0, 1) := by decide +kernel
theorem dX0_advance_1 : decode cX0_advance 1 = .ok (.getfield 23, 3) := by decide +kernel
theorem dX0_advance_4 : decode cX0_advance 4 = .ok (.invokestatic 94, 3) := by decide +kernel
theorem dX0_advance_7 : decode cX0_advance 7 = .ok (.ifCond .ne 4, 3) := by decide +kernel
theorem dX0_advance_10 : decode cX0_advance 10 = .ok (.return_, 1) := by decide +kernel
theorem dX0_advance_11 : decode cX0_advance 11 = .ok (.iload_n 2, 1) := by decide +kernel
theorem dX0_advance_12 : decode cX0_advance 12 = .ok (.iconst 4, 1) := by decide +kernel
theorem dX0_advance_13 : decode cX0_advance 13 = .ok (.aload_n 0, 1) := by decide +kernel
theorem dX0_advance_14 : decode cX0_advance 14 = .ok (.getfield 26, 3) := by decide +kernel
theorem dX0_advance_17 : decode cX0_advance 17 = .ok (.invokestatic 98, 3) := by decide +kernel
theorem dX0_advance_20 : decode cX0_advance 20 = .ok (.isub, 1) := by decide +kernel
theorem dX0_advance_21 : decode cX0_advance 21 = .ok (.imul, 1) := by decide +kernel
theorem dX0_advance_22 : decode cX0_advance 22 = .ok (.iconst 4, 1) := by decide +kernel
theorem dX0_advance_23 : decode cX0_advance 23 = .ok (.idiv, 1) := by decide +kernel
theorem dX0_advance_24 : decode cX0_advance 24 = .ok (.aload_n 1, 1) := by decide +kernel
theorem dX0_advance_25 : decode cX0_advance 25 = .ok (.getfield 101, 3) := by decide +kernel
theorem dX0_advance_28 : decode cX0_advance 28 = .ok (.aload_n 0, 1) := by decide +kernel
theorem dX0_advance_29 : decode cX0_advance 29 = .ok (.getfield 23, 3) := by decide +kernel
theorem dX0_advance_32 : decode cX0_advance 32 = .ok (.iaload, 1) := by decide +kernel
theorem dX0_advance_33 : decode cX0_advance 33 = .ok (.iadd, 1) := by decide +kernel
theorem dX0_advance_34 : decode cX0_advance 34 = .ok (.istore_n 3, 1) := by decide +kernel
theorem dX0_advance_35 : decode cX0_advance 35 = .ok (.aload_n 1, 1) := by decide +kernel
theorem dX0_advance_36 : decode cX0_advance 36 = .ok (.aload_n 0, 1) := by decide +kernel
theorem dX0_advance_37 : decode cX0_advance 37 = .ok (.getfield 20, 3) := by decide +kernel
theorem dX0_advance_40 : decode cX0_advance 40 = .ok (.aload_n 0, 1) := by decide +kernel
theorem dX0_advance_41 : decode cX0_advance 41 = .ok (.getfield 20, 3) := by decide +kernel
theorem dX0_advance_44 : decode cX0_advance 44 = .ok (.iload_n 3, 1) := by decide +kernel
theorem dX0_advance_45 : decode cX0_advance 45 = .ok (.iadd, 1) := by decide +kernel
theorem dX0_advance_46 : decode cX0_advance 46 = .ok (.aload_n 0, 1) := by decide +kernel
theorem dX0_advance_47 : decode cX0_advance 47 = .ok (.getfield 23, 3) := by decide +kernel
theorem dX0_advance_50 : decode cX0_advance 50 = .ok (.invokevirtual 104, 3) := by decide +kernel
theorem dX0_advance_53 : decode cX0_advance 53 = .ok (.istore 4, 2) := by decide +kernel
theorem dX0_advance_55 : decode cX0_advance 55 = .ok (.iload 4, 2) := by decide +kernel
theorem dX0_advance_57 : decode cX0_advance 57 = .ok (.iconst (-1), 1) := by decide +kernel
theorem dX0_advance_58 : decode cX0_advance 58 = .ok (.if_icmp .ne 20, 3) := by decide +kernel
theorem dX0_advance_61 : decode cX0_advance 61 = .ok (.aload_n 0, 1) := by decide +kernel
theorem dX0_advance_62 : decode cX0_advance 62 = .ok (.aload_n 0, 1) := by decide +kernel
theorem dX0_advance_63 : decode cX0_advance 63 = .ok (.getfield 20, 3) := by decide +kernel
theorem dX0_advance_66 : decode cX0_advance 66 = .ok (.iload_n 3, 1) := by decide +kernel
theorem dX0_advance_67 : decode cX0_advance 67 = .ok (.iadd, 1) := by decide +kernel
theorem dX0_advance_68 : decode cX0_advance 68 = .ok (.sipush 200, 3) := by decide +kernel
theorem dX0_advance_71 : decode cX0_advance 71 = .ok (.invokestatic 108, 3) := by decide +kernel
theorem dX0_advance_74 : decode cX0_advance 74 = .ok (.putfield 20, 3) := by decide +kernel
theorem dX0_advance_77 : decode cX0_advance 77 = .ok (.return_, 1) := by decide +kernel
theorem dX0_advance_78 : decode cX0_advance 78 = .ok (.aload_n 0, 1) := by decide +kernel
theorem dX0_advance_79 : decode cX0_advance 79 = .ok (.iload 4, 2) := by decide +kernel
theorem dX0_advance_81 : decode cX0_advance 81 = .ok (.putfield 20, 3) := by decide +kernel
theorem dX0_advance_84 : decode cX0_advance 84 = .ok (.aload_n 0, 1) := by decide +kernel
theorem dX0_advance_85 : decode cX0_advance 85 = .ok (.iconst 0, 1) := by decide +kernel
theorem dX0_advance_86 : decode cX0_advance 86 = .ok (.putfield 26, 3) := by decide +kernel
theorem dX0_advance_89 : decode cX0_advance 89 = .ok (.aload_n 0, 1) := by decide +kernel
theorem dX0_advance_90 : decode cX0_advance 90 = .ok (.iconst 5, 1) := by decide +kernel
theorem dX0_advance_91 : decode cX0_advance 91 = .ok (.invokevirtual 76, 3) := by decide +kernel
theorem dX0_advance_94 : decode cX0_advance 94 = .ok (.aload_n 0, 1) := by decide +kernel
theorem dX0_advance_95 : decode cX0_advance 95 = .ok (.dup, 1) := by decide +kernel
theorem dX0_advance_96 : decode cX0_advance 96 = .ok (.getfield 45, 3) := by decide +kernel
theorem dX0_advance_99 : decode cX0_advance 99 = .ok (.iconst 1, 1) := by decide +kernel
theorem dX0_advance_100 : decode cX0_advance 100 = .ok (.iadd, 1) := by decide +kernel
theorem dX0_advance_101 : decode cX0_advance 101 = .ok (.putfield 45, 3) := by decide +kernel
theorem dX0_advance_104 : decode cX0_advance 104 = .ok (.return_, 1) := by decide +kernel
theorem dX0_soak_0 : decode cX0_soak 0 = .ok (.aload_n 0, 1) := by decide +kernel
theorem dX0_soak_1 : decode cX0_soak 1 = .ok (.aload_n 0, 1) := by decide +kernel
theorem dX0_soak_2 : decode cX0_soak 2 = .ok (.getfield 29, 3) := by decide +kernel
theorem dX0_soak_5 : decode cX0_soak 5 = .ok (.iload_n 1, 1) := by decide +kernel
theorem dX0_soak_6 : decode cX0_soak 6 = .ok (.iadd, 1) := by decide +kernel
theorem dX0_soak_7 : decode cX0_soak 7 = .ok (.bipush 30, 2) := by decide +kernel
theorem dX0_soak_9 : decode cX0_soak 9 = .ok (.invokestatic 108, 3) := by decide +kernel
theorem dX0_soak_12 : decode cX0_soak 12 = .ok (.putfield 29, 3) := by decide +kernel
theorem dX0_soak_15 : decode cX0_soak 15 = .ok (.return_, 1) := by decide +kernel
set_option maxRecDepth 20000 in
theorem ggX1_init_X0_init : GoodIn wsX1_init wsX0_init := goodIn_r _ [11, 12, 2, 3, 13, 14, 15, 16, 17, 18, 19, 20, 21, 22, 23, 24, 25, 29, 30, 31, 32, 33, 34, 35, 36, 37, 38, 39, 40] (by decide +kernel) (by decide +kernel)
set_option maxRecDepth 20000 in
theorem gX1_init_X0_init_n22 : GoodIn wsX1_init (wsX0_init) := ggX1_init_X0_init
theorem dX1_init_0 : decode cX1_init 0 = .ok (.aload_n 0, 1) := by decide +kernel
theorem dX1_init_1 : decode cX1_init 1 = .ok (.invokespecial 1, 3) := by decide +kernel
theorem dX1_init_4 : decode cX1_init 4 = .ok (.aload_n 0, 1) := by decide +kernel
theorem dX1_init_5 : decode cX1_init 5 = .ok (.bipush 6, 2) := by decide +kernel
theorem dX1_init_7 : decode cX1_init 7 = .ok (.anewarray 9, 3) := by decide +kernel
theorem dX1_init_10 : decode cX1_init 10 = .ok (.putfield 11, 3) := by decide +kernel
theorem dX1_init_13 : decode cX1_init 13 = .ok (.aload_n 0, 1) := by decide +kernel
theorem dX1_init_14 : decode cX1_init 14 = .ok (.iconst 0, 1) := by decide +kernel
theorem dX1_init_15 : decode cX1_init 15 = .ok (.putfield 15, 3) := by decide +kernel
theorem dX1_init_18 : decode cX1_init 18 = .ok (.aload_n 0, 1) := by decide +kernel
theorem dX1_init_19 : decode cX1_init 19 = .ok (.iconst 0, 1) := by decide +kernel
theorem dX1_init_20 : decode cX1_init 20 = .ok (.putfield 19, 3) := by decide +kernel
theorem dX1_init_23 : decode cX1_init 23 = .ok (.iconst 0, 1) := by decide +kernel
theorem dX1_init_24 : decode cX1_init 24 = .ok (.istore_n 1, 1) := by decide +kernel
theorem dX1_init_25 : decode cX1_init 25 = .ok (.iload_n 1, 1) := by decide +kernel
theorem dX1_init_26 : decode cX1_init 26 = .ok (.bipush 6, 2) := by decide +kernel
theorem dX1_init_28 : decode cX1_init 28 = .ok (.if_icmp .ge 22, 3) := by decide +kernel
theorem dX1_init_31 : decode cX1_init 31 = .ok (.aload_n 0, 1) := by decide +kernel
theorem dX1_init_32 : decode cX1_init 32 = .ok (.getfield 11, 3) := by decide +kernel
theorem dX1_init_35 : decode cX1_init 35 = .ok (.iload_n 1, 1) := by decide +kernel
theorem dX1_init_36 : decode cX1_init 36 = .ok (.new 9, 3) := by decide +kernel
theorem dX1_init_39 : decode cX1_init 39 = .ok (.dup, 1) := by decide +kernel
theorem dX1_init_40 : decode cX1_init 40 = .ok (.invokespecial 22, 3) := by decide +kernel
theorem dX1_init_43 : decode cX1_init 43 = .ok (.aastore, 1) := by decide +kernel
theorem dX1_init_44 : decode cX1_init 44 = .ok (.iinc 1 1, 3) := by decide +kernel
theorem dX1_init_47 : decode cX1_init 47 = .ok (.goto (-22), 3) := by decide +kernel
theorem dX1_init_50 : decode cX1_init 50 = .ok (.return_, 1) := by decide +kernel
theorem dX1_has_0 : decode cX1_has 0 = .ok (.iload_n 1, 1) := by decide +kernel
theorem dX1_has_1 : decode cX1_has 1 = .ok (.ifCond .lt 15, 3) := by decide +kernel
theorem dX1_has_4 : decode cX1_has 4 = .ok (.iload_n 1, 1) := by decide +kernel
theorem dX1_has_5 : decode cX1_has 5 = .ok (.aload_n 0, 1) := by decide +kernel
theorem dX1_has_6 : decode cX1_has 6 = .ok (.getfield 15, 3) := by decide +kernel
theorem dX1_has_9 : decode cX1_has 9 = .ok (.if_icmp .ge 7, 3) := by decide +kernel
theorem dX1_has_12 : decode cX1_has 12 = .ok (.iconst 1, 1) := by decide +kernel
theorem dX1_has_13 : decode cX1_has 13 = .ok (.goto 4, 3) := by decide +kernel
theorem dX1_has_16 : decode cX1_has 16 = .ok (.iconst 0, 1) := by decide +kernel
theorem dX1_has_17 : decode cX1_has 17 = .ok (.ireturn, 1) := by decide +kernel
set_option maxRecDepth 20000 in
theorem ggX1_add_X0_start : GoodIn wsX1_add wsX0_start := goodIn_r _ [7, 8, 9, 10, 11, 12, 6, 13, 14, 15, 19, 20, 21, 22, 23, 24, 25, 26, 27, 28, 29, 30] (by decide +kernel) (by decide +kernel)
set_option maxRecDepth 20000 in
theorem gX1_add_X0_start : GoodIn wsX1_add (wsV RX1 23 RX0 yX0_start wsX0_start) := goodIn_app (goodIn_of _ (by decide +kernel)) ggX1_add_X0_start
theorem dX1_add_0 : decode cX1_add 0 = .ok (.aload_n 0, 1) := by decide +kernel
theorem dX1_add_1 : decode cX1_add 1 = .ok (.getfield 15, 3) := by decide +kernel
theorem dX1_add_4 : decode cX1_add 4 = .ok (.bipush 6, 2) := by decide +kernel
theorem dX1_add_6 : decode cX1_add 6 = .ok (.if_icmp .lt 5, 3) := by decide +kernel
theorem dX1_add_9 : decode cX1_add 9 = .ok (.iconst (-1), 1) := by decide +kernel
theorem dX1_add_10 : decode cX1_add 10 = .ok (.ireturn, 1) := by decide +kernel
theorem dX1_add_11 : decode cX1_add 11 = .ok (.aload_n 0, 1) := by decide +kernel
theorem dX1_add_12 : decode cX1_add 12 = .ok (.getfield 11, 3) := by decide +kernel
theorem dX1_add_15 : decode cX1_add 15 = .ok (.aload_n 0, 1) := by decide +kernel
theorem dX1_add_16 : decode cX1_add 16 = .ok (.getfield 15, 3) := by decide +kernel
theorem dX1_add_19 : decode cX1_add 19 = .ok (.aaload, 1) := by decide +kernel
theorem dX1_add_20 : decode cX1_add 20 = .ok (.iload_n 1, 1) := by decide +kernel
theorem dX1_add_21 : decode cX1_add 21 = .ok (.iload_n 2, 1) := by decide +kernel
theorem dX1_add_22 : decode cX1_add 22 = .ok (.invokevirtual 23, 3) := by decide +kernel
theorem dX1_add_25 : decode cX1_add 25 = .ok (.aload_n 0, 1) := by decide +kernel
theorem dX1_add_26 : decode cX1_add 26 = .ok (.dup, 1) := by decide +kernel
theorem dX1_add_27 : decode cX1_add 27 = .ok (.getfield 15, 3) := by decide +kernel
theorem dX1_add_30 : decode cX1_add 30 = .ok (.iconst 1, 1) := by decide +kernel
theorem dX1_add_31 : decode cX1_add 31 = .ok (.iadd, 1) := by decide +kernel
theorem dX1_add_32 : decode cX1_add 32 = .ok (.putfield 15, 3) := by decide +kernel
theorem dX1_add_35 : decode cX1_add 35 = .ok (.aload_n 0, 1) := by decide +kernel
theorem dX1_add_36 : decode cX1_add 36 = .ok (.getfield 15, 3) := by decide +kernel
theorem dX1_add_39 : decode cX1_add 39 = .ok (.iconst 1, 1) := by decide +kernel
theorem dX1_add_40 : decode cX1_add 40 = .ok (.isub, 1) := by decide +kernel
theorem dX1_add_41 : decode cX1_add 41 = .ok (.ireturn, 1) := by decide +kernel
set_option maxRecDepth 20000 in
theorem ggX1_copyFrom_X0_copyFrom : GoodIn wsX1_copyFrom wsX0_copyFrom := goodIn_r _ [8, 9, 10, 11, 12, 13, 14, 15, 16, 17, 18, 19, 20, 21, 22, 23, 24, 28, 29, 30, 31, 32, 33, 34, 35, 36, 37, 38, 39] (by decide +kernel) (by decide +kernel)
set_option maxRecDepth 20000 in
theorem gX1_copyFrom_X0_copyFrom : GoodIn wsX1_copyFrom (wsV RX1 27 RX0 yX0_copyFrom wsX0_copyFrom) := goodIn_app (goodIn_of _ (by decide +kernel)) ggX1_copyFrom_X0_copyFrom
theorem dX1_copyFrom_0 : decode cX1_copyFrom 0 = .ok (.aload_n 0, 1) := by decide +kernel
theorem dX1_copyFrom_1 : decode cX1_copyFrom 1 = .ok (.aload_n 1, 1) := by decide +kernel
theorem dX1_copyFrom_2 : decode cX1_copyFrom 2 = .ok (.getfield 15, 3) := by decide +kernel
theorem dX1_copyFrom_5 : decode cX1_copyFrom 5 = .ok (.putfield 15, 3) := by decide +kernel
theorem dX1_copyFrom_8 : decode cX1_copyFrom 8 = .ok (.aload_n 0, 1) := by decide +kernel
theorem dX1_copyFrom_9 : decode cX1_copyFrom 9 = .ok (.aload_n 1, 1) := by decide +kernel
theorem dX1_copyFrom_10 : decode cX1_copyFrom 10 = .ok (.getfield 19, 3) := by decide +kernel
theorem dX1_copyFrom_13 : decode cX1_copyFrom 13 = .ok (.putfield 19, 3) := by decide +kernel
theorem dX1_copyFrom_16 : decode cX1_copyFrom 16 = .ok (.iconst 0, 1) := by decide +kernel
theorem dX1_copyFrom_17 : decode cX1_copyFrom 17 = .ok (.istore_n 2, 1) := by decide +kernel
theorem dX1_copyFrom_18 : decode cX1_copyFrom 18 = .ok (.iload_n 2, 1) := by decide +kernel
theorem dX1_copyFrom_19 : decode cX1_copyFrom 19 = .ok (.aload_n 0, 1) := by decide +kernel
theorem dX1_copyFrom_20 : decode cX1_copyFrom 20 = .ok (.getfield 15, 3) := by decide +kernel
theorem dX1_copyFrom_23 : decode cX1_copyFrom 23 = .ok (.if_icmp .ge 24, 3) := by decide +kernel
theorem dX1_copyFrom_26 : decode cX1_copyFrom 26 = .ok (.aload_n 0, 1) := by decide +kernel
theorem dX1_copyFrom_27 : decode cX1_copyFrom 27 = .ok (.getfield 11, 3) := by decide +kernel
theorem dX1_copyFrom_30 : decode cX1_copyFrom 30 = .ok (.iload_n 2, 1) := by decide +kernel
theorem dX1_copyFrom_31 : decode cX1_copyFrom 31 = .ok (.aaload, 1) := by decide +kernel
theorem dX1_copyFrom_32 : decode cX1_copyFrom 32 = .ok (.aload_n 1, 1) := by decide +kernel
theorem dX1_copyFrom_33 : decode cX1_copyFrom 33 = .ok (.getfield 11, 3) := by decide +kernel
theorem dX1_copyFrom_36 : decode cX1_copyFrom 36 = .ok (.iload_n 2, 1) := by decide +kernel
theorem dX1_copyFrom_37 : decode cX1_copyFrom 37 = .ok (.aaload, 1) := by decide +kernel
theorem dX1_copyFrom_38 : decode cX1_copyFrom 38 = .ok (.invokevirtual 27, 3) := by decide +kernel
theorem dX1_copyFrom_41 : decode cX1_copyFrom 41 = .ok (.iinc 2 1, 3) := by decide +kernel
theorem dX1_copyFrom_44 : decode cX1_copyFrom 44 = .ok (.goto (-26), 3) := by decide +kernel
theorem dX1_copyFrom_47 : decode cX1_copyFrom 47 = .ok (.return_, 1) := by decide +kernel
set_option maxRecDepth 20000 in
theorem ggX1_letTicksGoBy_X0_letTickGoBy : GoodIn wsX1_letTicksGoBy wsX0_letTickGoBy := goodIn_r _ [8, 9, 10, 11, 12, 13, 14, 7, 15, 16, 17, 18, 19, 20, 21, 22, 23, 24, 25, 26, 27, 28, 29, 30, 31, 32, 33, 34, 35, 36, 37, 38, 39, 40, 41, 42, 43, 44, 45, 46, 47, 48, 49, 50, 51, 52, 53, 54, 55, 56, 57, 58, 59, 60, 61, 62, 63, 64, 65, 66, 67, 68, 69, 70, 74, 75, 76, 77, 78, 79, 80, 81, 82, 83, 84, 85, 86, 87, 88, 89] (by decide +kernel) (by decide +kernel)
set_option maxRecDepth 20000 in
theorem gX1_letTicksGoBy_X0_letTickGoBy : GoodIn wsX1_letTicksGoBy (wsV RX1 31 RX0 yX0_letTickGoBy wsX0_letTickGoBy) := goodIn_app (goodIn_of _ (by decide +kernel)) ggX1_letTicksGoBy_X0_letTickGoBy
theorem dX1_letTicksGoBy_0 : decode cX1_letTicksGoBy 0 = .ok (.iconst 0, 1) := by decide +kernel
theorem dX1_letTicksGoBy_1 : decode cX1_letTicksGoBy 1 = .ok (.istore_n 3, 1) := by decide +kernel
theorem dX1_letTicksGoBy_2 : decode cX1_letTicksGoBy 2 = .ok (.iload_n 3, 1) := by decide +kernel
theorem dX1_letTicksGoBy_3 : decode cX1_letTicksGoBy 3 = .ok (.iload_n 2, 1) := by decide +kernel
theorem dX1_letTicksGoBy_4 : decode cX1_letTicksGoBy 4 = .ok (.if_icmp .ge 52, 3) := by decide +kernel
theorem dX1_letTicksGoBy_7 : decode cX1_letTicksGoBy 7 = .ok (.iconst 0, 1) := by decide +kernel
theorem dX1_letTicksGoBy_8 : decode cX1_letTicksGoBy 8 = .ok (.istore 4, 2) := by decide +kernel
theorem dX1_letTicksGoBy_10 : decode cX1_letTicksGoBy 10 = .ok (.iload 4, 2) := by decide +kernel
theorem dX1_letTicksGoBy_12 : decode cX1_letTicksGoBy 12 = .ok (.aload_n 0, 1) := by decide +kernel
theorem dX1_letTicksGoBy_13 : decode cX1_letTicksGoBy 13 = .ok (.getfield 15, 3) := by decide +kernel
theorem dX1_letTicksGoBy_16 : decode cX1_letTicksGoBy 16 = .ok (.if_icmp .ge 24, 3) := by decide +kernel
theorem dX1_letTicksGoBy_19 : decode cX1_letTicksGoBy 19 = .ok (.aload_n 0, 1) := by decide +kernel
theorem dX1_letTicksGoBy_20 : decode cX1_letTicksGoBy 20 = .ok (.getfield 11, 3) := by decide +kernel
theorem dX1_letTicksGoBy_23 : decode cX1_letTicksGoBy 23 = .ok (.iload 4, 2) := by decide +kernel
theorem dX1_letTicksGoBy_25 : decode cX1_letTicksGoBy 25 = .ok (.aaload, 1) := by decide +kernel
theorem dX1_letTicksGoBy_26 : decode cX1_letTicksGoBy 26 = .ok (.aload_n 1, 1) := by decide +kernel
theorem dX1_letTicksGoBy_27 : decode cX1_letTicksGoBy 27 = .ok (.aload_n 0, 1) := by decide +kernel
theorem dX1_letTicksGoBy_28 : decode cX1_letTicksGoBy 28 = .ok (.getfield 19, 3) := by decide +kernel
theorem dX1_letTicksGoBy_31 : decode cX1_letTicksGoBy 31 = .ok (.invokevirtual 31, 3) := by decide +kernel
theorem dX1_letTicksGoBy_34 : decode cX1_letTicksGoBy 34 = .ok (.iinc 4 1, 3) := by decide +kernel
theorem dX1_letTicksGoBy_37 : decode cX1_letTicksGoBy 37 = .ok (.goto (-27), 3) := by decide +kernel
theorem dX1_letTicksGoBy_40 : decode cX1_letTicksGoBy 40 = .ok (.aload_n 0, 1) := by decide +kernel
theorem dX1_letTicksGoBy_41 : decode cX1_letTicksGoBy 41 = .ok (.dup, 1) := by decide +kernel
theorem dX1_letTicksGoBy_42 : decode cX1_letTicksGoBy 42 = .ok (.getfield 19, 3) := by decide +kernel
theorem dX1_letTicksGoBy_45 : decode cX1_letTicksGoBy 45 = .ok (.iconst 1, 1) := by decide +kernel
theorem dX1_letTicksGoBy_46 : decode cX1_letTicksGoBy 46 = .ok (.iadd, 1) := by decide +kernel
theorem dX1_letTicksGoBy_47 : decode cX1_letTicksGoBy 47 = .ok (.putfield 19, 3) := by decide +kernel
theorem dX1_letTicksGoBy_50 : decode cX1_letTicksGoBy 50 = .ok (.iinc 3 1, 3) := by decide +kernel
theorem dX1_letTicksGoBy_53 : decode cX1_letTicksGoBy 53 = .ok (.goto (-51), 3) := by decide +kernel
theorem dX1_letTicksGoBy_56 : decode cX1_letTicksGoBy 56 = .ok (.return_, 1) := by decide +kernel
set_option maxRecDepth 20000 in
theorem ggX1_boatsIn_X0_isIn : GoodIn wsX1_boatsIn wsX0_isIn := goodIn_r _ [7, 8, 12, 13, 14, 15, 16, 17, 18, 19, 20, 21, 22, 23] (by decide +kernel) (by decide +kernel)
set_option maxRecDepth 20000 in
theorem gX1_boatsIn_X0_isIn : GoodIn wsX1_boatsIn (wsV RX1 35 RX0 yX0_isIn wsX0_isIn) := goodIn_app (goodIn_of _ (by decide +kernel)) ggX1_boatsIn_X0_isIn
theorem dX1_boatsIn_0 : decode cX1_boatsIn 0 = .ok (.iconst 0, 1) := by decide +kernel
theorem dX1_boatsIn_1 : decode cX1_boatsIn 1 = .ok (.istore_n 1, 1) := by decide +kernel
theorem dX1_boatsIn_2 : decode cX1_boatsIn 2 = .ok (.iconst 0, 1) := by decide +kernel
theorem dX1_boatsIn_3 : decode cX1_boatsIn 3 = .ok (.istore_n 2, 1) := by decide +kernel
theorem dX1_boatsIn_4 : decode cX1_boatsIn 4 = .ok (.iload_n 2, 1) := by decide +kernel
theorem dX1_boatsIn_5 : decode cX1_boatsIn 5 = .ok (.aload_n 0, 1) := by decide +kernel
theorem dX1_boatsIn_6 : decode cX1_boatsIn 6 = .ok (.getfield 15, 3) := by decide +kernel
theorem dX1_boatsIn_9 : decode cX1_boatsIn 9 = .ok (.if_icmp .ge 24, 3) := by decide +kernel
theorem dX1_boatsIn_12 : decode cX1_boatsIn 12 = .ok (.aload_n 0, 1) := by decide +kernel
theorem dX1_boatsIn_13 : decode cX1_boatsIn 13 = .ok (.getfield 11, 3) := by decide +kernel
theorem dX1_boatsIn_16 : decode cX1_boatsIn 16 = .ok (.iload_n 2, 1) := by decide +kernel
theorem dX1_boatsIn_17 : decode cX1_boatsIn 17 = .ok (.aaload, 1) := by decide +kernel
theorem dX1_boatsIn_18 : decode cX1_boatsIn 18 = .ok (.invokevirtual 35, 3) := by decide +kernel
theorem dX1_boatsIn_21 : decode cX1_boatsIn 21 = .ok (.ifCond .eq 6, 3) := by decide +kernel
theorem dX1_boatsIn_24 : decode cX1_boatsIn 24 = .ok (.iinc 1 1, 3) := by decide +kernel
theorem dX1_boatsIn_27 : decode cX1_boatsIn 27 = .ok (.iinc 2 1, 3) := by decide +kernel
theorem dX1_boatsIn_30 : decode cX1_boatsIn 30 = .ok (.goto (-26), 3) := by decide +kernel
theorem dX1_boatsIn_33 : decode cX1_boatsIn 33 = .ok (.iload_n 1, 1) := by decide +kernel
theorem dX1_boatsIn_34 : decode cX1_boatsIn 34 = .ok (.ireturn, 1) := by decide +kernel
theorem dX1_foulsAdded_0 : decode cX1_foulsAdded 0 = .ok (.iconst 0, 1) := by decide +kernel
theorem dX1_foulsAdded_1 : decode cX1_foulsAdded 1 = .ok (.istore_n 1, 1) := by decide +kernel
theorem dX1_foulsAdded_2 : decode cX1_foulsAdded 2 = .ok (.iconst 0, 1) := by decide +kernel
theorem dX1_foulsAdded_3 : decode cX1_foulsAdded 3 = .ok (.istore_n 2, 1) := by decide +kernel
theorem dX1_foulsAdded_4 : decode cX1_foulsAdded 4 = .ok (.iload_n 2, 1) := by decide +kernel
theorem dX1_foulsAdded_5 : decode cX1_foulsAdded 5 = .ok (.aload_n 0, 1) := by decide +kernel
theorem dX1_foulsAdded_6 : decode cX1_foulsAdded 6 = .ok (.getfield 15, 3) := by decide +kernel
theorem dX1_foulsAdded_9 : decode cX1_foulsAdded 9 = .ok (.if_icmp .ge 21, 3) := by decide +kernel
theorem dX1_foulsAdded_12 : decode cX1_foulsAdded 12 = .ok (.iload_n 1, 1) := by decide +kernel
theorem dX1_foulsAdded_13 : decode cX1_foulsAdded 13 = .ok (.aload_n 0, 1) := by decide +kernel
theorem dX1_foulsAdded_14 : decode cX1_foulsAdded 14 = .ok (.getfield 11, 3) := by decide +kernel
theorem dX1_foulsAdded_17 : decode cX1_foulsAdded 17 = .ok (.iload_n 2, 1) := by decide +kernel
theorem dX1_foulsAdded_18 : decode cX1_foulsAdded 18 = .ok (.aaload, 1) := by decide +kernel
theorem dX1_foulsAdded_19 : decode cX1_foulsAdded 19 = .ok (.getfield 39, 3) := by decide +kernel
theorem dX1_foulsAdded_22 : decode cX1_foulsAdded 22 = .ok (.iadd, 1) := by decide +kernel
theorem dX1_foulsAdded_23 : decode cX1_foulsAdded 23 = .ok (.istore_n 1, 1) := by decide +kernel
theorem dX1_foulsAdded_24 : decode cX1_foulsAdded 24 = .ok (.iinc 2 1, 3) := by decide +kernel
theorem dX1_foulsAdded_27 : decode cX1_foulsAdded 27 = .ok (.goto (-23), 3) := by decide +kernel
theorem dX1_foulsAdded_30 : decode cX1_foulsAdded 30 = .ok (.iload_n 1, 1) := by decide +kernel
theorem dX1_foulsAdded_31 : decode cX1_foulsAdded 31 = .ok (.ireturn, 1) := by decide +kernel
theorem dX1_placesAdded_0 : decode cX1_placesAdded 0 = .ok (.iconst 0, 1) := by decide +kernel
theorem dX1_placesAdded_1 : decode cX1_placesAdded 1 = .ok (.istore_n 1, 1) := by decide +kernel
theorem dX1_placesAdded_2 : decode cX1_placesAdded 2 = .ok (.iconst 0, 1) := by decide +kernel
theorem dX1_placesAdded_3 : decode cX1_placesAdded 3 = .ok (.istore_n 2, 1) := by decide +kernel
theorem dX1_placesAdded_4 : decode cX1_placesAdded 4 = .ok (.iload_n 2, 1) := by decide +kernel
theorem dX1_placesAdded_5 : decode cX1_placesAdded 5 = .ok (.aload_n 0, 1) := by decide +kernel
theorem dX1_placesAdded_6 : decode cX1_placesAdded 6 = .ok (.getfield 15, 3) := by decide +kernel
theorem dX1_placesAdded_9 : decode cX1_placesAdded 9 = .ok (.if_icmp .ge 21, 3) := by decide +kernel
theorem dX1_placesAdded_12 : decode cX1_placesAdded 12 = .ok (.iload_n 1, 1) := by decide +kernel
theorem dX1_placesAdded_13 : decode cX1_placesAdded 13 = .ok (.aload_n 0, 1) := by decide +kernel
theorem dX1_placesAdded_14 : decode cX1_placesAdded 14 = .ok (.getfield 11, 3) := by decide +kernel
theorem dX1_placesAdded_17 : decode cX1_placesAdded 17 = .ok (.iload_n 2, 1) := by decide +kernel
theorem dX1_placesAdded_18 : decode cX1_placesAdded 18 = .ok (.aaload, 1) := by decide +kernel
theorem dX1_placesAdded_19 : decode cX1_placesAdded 19 = .ok (.getfield 42, 3) := by decide +kernel
theorem dX1_placesAdded_22 : decode cX1_placesAdded 22 = .ok (.iadd, 1) := by decide +kernel
theorem dX1_placesAdded_23 : decode cX1_placesAdded 23 = .ok (.istore_n 1, 1) := by decide +kernel
theorem dX1_placesAdded_24 : decode cX1_placesAdded 24 = .ok (.iinc 2 1, 3) := by decide +kernel
theorem dX1_placesAdded_27 : decode cX1_placesAdded 27 = .ok (.goto (-23), 3) := by decide +kernel
theorem dX1_placesAdded_30 : decode cX1_placesAdded 30 = .ok (.iload_n 1, 1) := by decide +kernel
theorem dX1_placesAdded_31 : decode cX1_placesAdded 31 = .ok (.ireturn, 1) := by decide +kernel
set_option maxRecDepth 20000 in
theorem ggX1_leader_X0_isIn : GoodIn wsX1_leader wsX0_isIn := goodIn_r _ [8, 9, 13, 14, 15, 16, 17, 18, 19, 20, 21, 22, 23, 24] (by decide +kernel) (by decide +kernel)
set_option maxRecDepth 20000 in
theorem gX1_leader_X0_isIn : GoodIn wsX1_leader (wsV RX1 35 RX0 yX0_isIn wsX0_isIn) := goodIn_app (goodIn_of _ (by decide +kernel)) ggX1_leader_X0_isIn
theorem dX1_leader_0 : decode cX1_leader 0 = .ok (.iconst (-1), 1) := by decide +kernel
theorem dX1_leader_1 : decode cX1_leader 1 = .ok (.istore_n 1, 1) := by decide +kernel
theorem dX1_leader_2 : decode cX1_leader 2 = .ok (.iconst (-1), 1) := by decide +kernel
theorem dX1_leader_3 : decode cX1_leader 3 = .ok (.istore_n 2, 1) := by decide +kernel
theorem dX1_leader_4 : decode cX1_leader 4 = .ok (.iconst 0, 1) := by decide +kernel
theorem dX1_leader_5 : decode cX1_leader 5 = .ok (.istore_n 3, 1) := by decide +kernel
theorem dX1_leader_6 : decode cX1_leader 6 = .ok (.iload_n 3, 1) := by decide +kernel
theorem dX1_leader_7 : decode cX1_leader 7 = .ok (.aload_n 0, 1) := by decide +kernel
theorem dX1_leader_8 : decode cX1_leader 8 = .ok (.getfield 15, 3) := by decide +kernel
theorem dX1_leader_11 : decode cX1_leader 11 = .ok (.if_icmp .ge 46, 3) := by decide +kernel
theorem dX1_leader_14 : decode cX1_leader 14 = .ok (.aload_n 0, 1) := by decide +kernel
theorem dX1_leader_15 : decode cX1_leader 15 = .ok (.getfield 11, 3) := by decide +kernel
theorem dX1_leader_18 : decode cX1_leader 18 = .ok (.iload_n 3, 1) := by decide +kernel
theorem dX1_leader_19 : decode cX1_leader 19 = .ok (.aaload, 1) := by decide +kernel
theorem dX1_leader_20 : decode cX1_leader 20 = .ok (.invokevirtual 35, 3) := by decide +kernel
theorem dX1_leader_23 : decode cX1_leader 23 = .ok (.ifCond .ne 28, 3) := by decide +kernel
theorem dX1_leader_26 : decode cX1_leader 26 = .ok (.aload_n 0, 1) := by decide +kernel
theorem dX1_leader_27 : decode cX1_leader 27 = .ok (.getfield 11, 3) := by decide +kernel
theorem dX1_leader_30 : decode cX1_leader 30 = .ok (.iload_n 3, 1) := by decide +kernel
theorem dX1_leader_31 : decode cX1_leader 31 = .ok (.aaload, 1) := by decide +kernel
theorem dX1_leader_32 : decode cX1_leader 32 = .ok (.getfield 42, 3) := by decide +kernel
theorem dX1_leader_35 : decode cX1_leader 35 = .ok (.iload_n 2, 1) := by decide +kernel
theorem dX1_leader_36 : decode cX1_leader 36 = .ok (.if_icmp .le 15, 3) := by decide +kernel
theorem dX1_leader_39 : decode cX1_leader 39 = .ok (.iload_n 3, 1) := by decide +kernel
theorem dX1_leader_40 : decode cX1_leader 40 = .ok (.istore_n 1, 1) := by decide +kernel
theorem dX1_leader_41 : decode cX1_leader 41 = .ok (.aload_n 0, 1) := by decide +kernel
theorem dX1_leader_42 : decode cX1_leader 42 = .ok (.getfield 11, 3) := by decide +kernel
theorem dX1_leader_45 : decode cX1_leader 45 = .ok (.iload_n 3, 1) := by decide +kernel
theorem dX1_leader_46 : decode cX1_leader 46 = .ok (.aaload, 1) := by decide +kernel
theorem dX1_leader_47 : decode cX1_leader 47 = .ok (.getfield 42, 3) := by decide +kernel
theorem dX1_leader_50 : decode cX1_leader 50 = .ok (.istore_n 2, 1) := by decide +kernel
theorem dX1_leader_51 : decode cX1_leader 51 = .ok (.iinc 3 1, 3) := by decide +kernel
theorem dX1_leader_54 : decode cX1_leader 54 = .ok (.goto (-48), 3) := by decide +kernel
theorem dX1_leader_57 : decode cX1_leader 57 = .ok (.iload_n 1, 1) := by decide +kernel
theorem dX1_leader_58 : decode cX1_leader 58 = .ok (.ireturn, 1) := by decide +kernel
set_option maxRecDepth 20000 in
theorem ggX1_winner_X0_isIn : GoodIn wsX1_winner wsX0_isIn := goodIn_r _ [7, 8, 18, 19, 20, 21, 22, 23, 24, 25, 26, 27, 28, 29] (by decide +kernel) (by decide +kernel)
set_option maxRecDepth 20000 in
theorem gX1_winner_X0_isIn : GoodIn wsX1_winner (wsV RX1 35 RX0 yX0_isIn wsX0_isIn) := goodIn_app (goodIn_of _ (by decide +kernel)) ggX1_winner_X0_isIn
set_option maxRecDepth 20000 in
theorem ggX1_winner_X0_time : GoodIn wsX1_winner wsX0_time := goodIn_r _ [12, 8, 13, 14, 18, 19, 20, 21, 22, 23, 24, 25, 26, 27, 28, 29] (by decide +kernel) (by decide +kernel)
set_option maxRecDepth 20000 in
theorem gX1_winner_X0_time : GoodIn wsX1_winner (wsV RX1 45 RX0 yX0_time wsX0_time) := goodIn_app (goodIn_of _ (by decide +kernel)) ggX1_winner_X0_time
theorem dX1_winner_0 : decode cX1_winner 0 = .ok (.iconst (-1), 1) := by decide +kernel
theorem dX1_winner_1 : decode cX1_winner 1 = .ok (.istore_n 1, 1) := by decide +kernel
theorem dX1_winner_2 : decode cX1_winner 2 = .ok (.iconst 0, 1) := by decide +kernel
theorem dX1_winner_3 : decode cX1_winner 3 = .ok (.istore_n 2, 1) := by decide +kernel
theorem dX1_winner_4 : decode cX1_winner 4 = .ok (.iconst 0, 1) := by decide +kernel
theorem dX1_winner_5 : decode cX1_winner 5 = .ok (.istore_n 3, 1) := by decide +kernel
theorem dX1_winner_6 : decode cX1_winner 6 = .ok (.iload_n 3, 1) := by decide +kernel
theorem dX1_winner_7 : decode cX1_winner 7 = .ok (.aload_n 0, 1) := by decide +kernel
theorem dX1_winner_8 : decode cX1_winner 8 = .ok (.getfield 15, 3) := by decide +kernel
theorem dX1_winner_11 : decode cX1_winner 11 = .ok (.if_icmp .ge 51, 3) := by decide +kernel
theorem dX1_winner_14 : decode cX1_winner 14 = .ok (.aload_n 0, 1) := by decide +kernel
theorem dX1_winner_15 : decode cX1_winner 15 = .ok (.getfield 11, 3) := by decide +kernel
theorem dX1_winner_18 : decode cX1_winner 18 = .ok (.iload_n 3, 1) := by decide +kernel
theorem dX1_winner_19 : decode cX1_winner 19 = .ok (.aaload, 1) := by decide +kernel
theorem dX1_winner_20 : decode cX1_winner 20 = .ok (.invokevirtual 35, 3) := by decide +kernel
theorem dX1_winner_23 : decode cX1_winner 23 = .ok (.ifCond .eq 33, 3) := by decide +kernel
theorem dX1_winner_26 : decode cX1_winner 26 = .ok (.iload_n 1, 1) := by decide +kernel
theorem dX1_winner_27 : decode cX1_winner 27 = .ok (.iconst (-1), 1) := by decide +kernel
theorem dX1_winner_28 : decode cX1_winner 28 = .ok (.if_icmp .eq 16, 3) := by decide +kernel
theorem dX1_winner_31 : decode cX1_winner 31 = .ok (.aload_n 0, 1) := by decide +kernel
theorem dX1_winner_32 : decode cX1_winner 32 = .ok (.getfield 11, 3) := by decide +kernel
theorem dX1_winner_35 : decode cX1_winner 35 = .ok (.iload_n 3, 1) := by decide +kernel
theorem dX1_winner_36 : decode cX1_winner 36 = .ok (.aaload, 1) := by decide +kernel
theorem dX1_winner_37 : decode cX1_winner 37 = .ok (.invokevirtual 45, 3) := by decide +kernel
theorem dX1_winner_40 : decode cX1_winner 40 = .ok (.iload_n 2, 1) := by decide +kernel
theorem dX1_winner_41 : decode cX1_winner 41 = .ok (.if_icmp .ge 15, 3) := by decide +kernel
theorem dX1_winner_44 : decode cX1_winner 44 = .ok (.iload_n 3, 1) := by decide +kernel
theorem dX1_winner_45 : decode cX1_winner 45 = .ok (.istore_n 1, 1) := by decide +kernel
theorem dX1_winner_46 : decode cX1_winner 46 = .ok (.aload_n 0, 1) := by decide +kernel
theorem dX1_winner_47 : decode cX1_winner 47 = .ok (.getfield 11, 3) := by decide +kernel
theorem dX1_winner_50 : decode cX1_winner 50 = .ok (.iload_n 3, 1) := by decide +kernel
theorem dX1_winner_51 : decode cX1_winner 51 = .ok (.aaload, 1) := by decide +kernel
theorem dX1_winner_52 : decode cX1_winner 52 = .ok (.invokevirtual 45, 3) := by decide +kernel
theorem dX1_winner_55 : decode cX1_winner 55 = .ok (.istore_n 2, 1) := by decide +kernel
theorem dX1_winner_56 : decode cX1_winner 56 = .ok (.iinc 3 1, 3) := by decide +kernel
theorem dX1_winner_59 : decode cX1_winner 59 = .ok (.goto (-53), 3) := by decide +kernel
theorem dX1_winner_62 : decode cX1_winner 62 = .ok (.iload_n 1, 1) := by decide +kernel
theorem dX1_winner_63 : decode cX1_winner 63 = .ok (.ireturn, 1) := by decide +kernel
set_option maxRecDepth 20000 in
theorem ggX1_rankOf_X0_isAheadOf : GoodIn wsX1_rankOf wsX0_isAheadOf := goodIn_r _ [7, 8, 9, 10, 11, 12, 6, 13, 14, 15, 19, 20, 21, 22, 23, 24, 25, 26, 27, 28, 29, 30] (by decide +kernel) (by decide +kernel)
set_option maxRecDepth 20000 in
theorem gX1_rankOf_X0_isAheadOf : GoodIn wsX1_rankOf (wsV RX1 49 RX0 yX0_isAheadOf wsX0_isAheadOf) := goodIn_app (goodIn_of _ (by decide +kernel)) ggX1_rankOf_X0_isAheadOf
theorem dX1_rankOf_0 : decode cX1_rankOf 0 = .ok (.iconst 0, 1) := by decide +kernel
theorem dX1_rankOf_1 : decode cX1_rankOf 1 = .ok (.istore_n 2, 1) := by decide +kernel
theorem dX1_rankOf_2 : decode cX1_rankOf 2 = .ok (.iconst 0, 1) := by decide +kernel
theorem dX1_rankOf_3 : decode cX1_rankOf 3 = .ok (.istore_n 3, 1) := by decide +kernel
theorem dX1_rankOf_4 : decode cX1_rankOf 4 = .ok (.iload_n 3, 1) := by decide +kernel
theorem dX1_rankOf_5 : decode cX1_rankOf 5 = .ok (.aload_n 0, 1) := by decide +kernel
theorem dX1_rankOf_6 : decode cX1_rankOf 6 = .ok (.getfield 15, 3) := by decide +kernel
theorem dX1_rankOf_9 : decode cX1_rankOf 9 = .ok (.if_icmp .ge 25, 3) := by decide +kernel
theorem dX1_rankOf_12 : decode cX1_rankOf 12 = .ok (.aload_n 0, 1) := by decide +kernel
theorem dX1_rankOf_13 : decode cX1_rankOf 13 = .ok (.getfield 11, 3) := by decide +kernel
theorem dX1_rankOf_16 : decode cX1_rankOf 16 = .ok (.iload_n 3, 1) := by decide +kernel
theorem dX1_rankOf_17 : decode cX1_rankOf 17 = .ok (.aaload, 1) := by decide +kernel
theorem dX1_rankOf_18 : decode cX1_rankOf 18 = .ok (.aload_n 1, 1) := by decide +kernel
theorem dX1_rankOf_19 : decode cX1_rankOf 19 = .ok (.invokevirtual 49, 3) := by decide +kernel
theorem dX1_rankOf_22 : decode cX1_rankOf 22 = .ok (.ifCond .eq 6, 3) := by decide +kernel
theorem dX1_rankOf_25 : decode cX1_rankOf 25 = .ok (.iinc 2 1, 3) := by decide +kernel
theorem dX1_rankOf_28 : decode cX1_rankOf 28 = .ok (.iinc 3 1, 3) := by decide +kernel
theorem dX1_rankOf_31 : decode cX1_rankOf 31 = .ok (.goto (-27), 3) := by decide +kernel
theorem dX1_rankOf_34 : decode cX1_rankOf 34 = .ok (.iconst 1, 1) := by decide +kernel
theorem dX1_rankOf_35 : decode cX1_rankOf 35 = .ok (.iload_n 2, 1) := by decide +kernel
theorem dX1_rankOf_36 : decode cX1_rankOf 36 = .ok (.iadd, 1) := by decide +kernel
theorem dX1_rankOf_37 : decode cX1_rankOf 37 = .ok (.ireturn, 1) := by decide +kernel
theorem dX2_init_0 : decode cX2_init 0 = .ok (.aload_n 0, 1) := by decide +kernel
theorem dX2_init_1 : decode cX2_init 1 = .ok (.invokespecial 1, 3) := by decide +kernel
theorem dX2_init_4 : decode cX2_init 4 = .ok (.aload_n 0, 1) := by decide +kernel
theorem dX2_init_5 : decode cX2_init 5 = .ok (.iconst 5, 1) := by decide +kernel
theorem dX2_init_6 : decode cX2_init 6 = .ok (.newarray .int, 2) := by decide +kernel
theorem dX2_init_8 : decode cX2_init 8 = .ok (.dup, 1) := by decide +kernel
theorem dX2_init_9 : decode cX2_init 9 = .ok (.iconst 0, 1) := by decide +kernel
theorem dX2_init_10 : decode cX2_init 10 = .ok (.iconst 1, 1) := by decide +kernel
theorem dX2_init_11 : decode cX2_init 11 = .ok (.iastore, 1) := by decide +kernel
theorem dX2_init_12 : decode cX2_init 12 = .ok (.dup, 1) := by decide +kernel
theorem dX2_init_13 : decode cX2_init 13 = .ok (.iconst 1, 1) := by decide +kernel
theorem dX2_init_14 : decode cX2_init 14 = .ok (.iconst 2, 1) := by decide +kernel
theorem dX2_init_15 : decode cX2_init 15 = .ok (.iastore, 1) := by decide +kernel
theorem dX2_init_16 : decode cX2_init 16 = .ok (.dup, 1) := by decide +kernel
theorem dX2_init_17 : decode cX2_init 17 = .ok (.iconst 2, 1) := by decide +kernel
theorem dX2_init_18 : decode cX2_init 18 = .ok (.iconst 3, 1) := by decide +kernel
theorem dX2_init_19 : decode cX2_init 19 = .ok (.iastore, 1) := by decide +kernel
theorem dX2_init_20 : decode cX2_init 20 = .ok (.dup, 1) := by decide +kernel
theorem dX2_init_21 : decode cX2_init 21 = .ok (.iconst 3, 1) := by decide +kernel
theorem dX2_init_22 : decode cX2_init 22 = .ok (.iconst 2, 1) := by decide +kernel
theorem dX2_init_23 : decode cX2_init 23 = .ok (.iastore, 1) := by decide +kernel
theorem dX2_init_24 : decode cX2_init 24 = .ok (.dup, 1) := by decide +kernel
theorem dX2_init_25 : decode cX2_init 25 = .ok (.iconst 4, 1) := by decide +kernel
theorem dX2_init_26 : decode cX2_init 26 = .ok (.iconst 1, 1) := by decide +kernel
theorem dX2_init_27 : decode cX2_init 27 = .ok (.iastore, 1) := by decide +kernel
theorem dX2_init_28 : decode cX2_init 28 = .ok (.putfield 7, 3) := by decide +kernel
theorem dX2_init_31 : decode cX2_init 31 = .ok (.aload_n 0, 1) := by decide +kernel
theorem dX2_init_32 : decode cX2_init 32 = .ok (.bipush 6, 2) := by decide +kernel
theorem dX2_init_34 : decode cX2_init 34 = .ok (.newarray .int, 2) := by decide +kernel
theorem dX2_init_36 : decode cX2_init 36 = .ok (.putfield 13, 3) := by decide +kernel
theorem dX2_init_39 : decode cX2_init 39 = .ok (.aload_n 0, 1) := by decide +kernel
theorem dX2_init_40 : decode cX2_init 40 = .ok (.bipush 6, 2) := by decide +kernel
theorem dX2_init_42 : decode cX2_init 42 = .ok (.newarray .int, 2) := by decide +kernel
theorem dX2_init_44 : decode cX2_init 44 = .ok (.putfield 16, 3) := by decide +kernel
theorem dX2_init_47 : decode cX2_init 47 = .ok (.aload_n 0, 1) := by decide +kernel
theorem dX2_init_48 : decode cX2_init 48 = .ok (.iconst 0, 1) := by decide +kernel
theorem dX2_init_49 : decode cX2_init 49 = .ok (.putfield 19, 3) := by decide +kernel
theorem dX2_init_52 : decode cX2_init 52 = .ok (.return_, 1) := by decide +kernel
theorem dX2_isLane_0 : decode cX2_isLane 0 = .ok (.iload_n 0, 1) := by decide +kernel
theorem dX2_isLane_1 : decode cX2_isLane 1 = .ok (.ifCond .lt 12, 3) := by decide +kernel
theorem dX2_isLane_4 : decode cX2_isLane 4 = .ok (.iload_n 0, 1) := by decide +kernel
theorem dX2_isLane_5 : decode cX2_isLane 5 = .ok (.iconst 5, 1) := by decide +kernel
theorem dX2_isLane_6 : decode cX2_isLane 6 = .ok (.if_icmp .ge 7, 3) := by decide +kernel
theorem dX2_isLane_9 : decode cX2_isLane 9 = .ok (.iconst 1, 1) := by decide +kernel
theorem dX2_isLane_10 : decode cX2_isLane 10 = .ok (.goto 4, 3) := by decide +kernel
theorem dX2_isLane_13 : decode cX2_isLane 13 = .ok (.iconst 0, 1) := by decide +kernel
theorem dX2_isLane_14 : decode cX2_isLane 14 = .ok (.ireturn, 1) := by decide +kernel
theorem dX2_hasWeirAt_0 : decode cX2_hasWeirAt 0 = .ok (.iconst 0, 1) := by decide +kernel
theorem dX2_hasWeirAt_1 : decode cX2_hasWeirAt 1 = .ok (.istore_n 2, 1) := by decide +kernel
theorem dX2_hasWeirAt_2 : decode cX2_hasWeirAt 2 = .ok (.iload_n 2, 1) := by decide +kernel
theorem dX2_hasWeirAt_3 : decode cX2_hasWeirAt 3 = .ok (.aload_n 0, 1) := by decide +kernel
theorem dX2_hasWeirAt_4 : decode cX2_hasWeirAt 4 = .ok (.getfield 19, 3) := by decide +kernel
theorem dX2_hasWeirAt_7 : decode cX2_hasWeirAt 7 = .ok (.if_icmp .ge 21, 3) := by decide +kernel
theorem dX2_hasWeirAt_10 : decode cX2_hasWeirAt 10 = .ok (.aload_n 0, 1) := by decide +kernel
theorem dX2_hasWeirAt_11 : decode cX2_hasWeirAt 11 = .ok (.getfield 13, 3) := by decide +kernel
theorem dX2_hasWeirAt_14 : decode cX2_hasWeirAt 14 = .ok (.iload_n 2, 1) := by decide +kernel
theorem dX2_hasWeirAt_15 : decode cX2_hasWeirAt 15 = .ok (.iaload, 1) := by decide +kernel
theorem dX2_hasWeirAt_16 : decode cX2_hasWeirAt 16 = .ok (.iload_n 1, 1) := by decide +kernel
theorem dX2_hasWeirAt_17 : decode cX2_hasWeirAt 17 = .ok (.if_icmp .ne 5, 3) := by decide +kernel
theorem dX2_hasWeirAt_20 : decode cX2_hasWeirAt 20 = .ok (.iconst 1, 1) := by decide +kernel
theorem dX2_hasWeirAt_21 : decode cX2_hasWeirAt 21 = .ok (.ireturn, 1) := by decide +kernel
theorem dX2_hasWeirAt_22 : decode cX2_hasWeirAt 22 = .ok (.iinc 2 1, 3) := by decide +kernel
theorem dX2_hasWeirAt_25 : decode cX2_hasWeirAt 25 = .ok (.goto (-23), 3) := by decide +kernel
theorem dX2_hasWeirAt_28 : decode cX2_hasWeirAt 28 = .ok (.iconst 0, 1) := by decide +kernel
theorem dX2_hasWeirAt_29 : decode cX2_hasWeirAt 29 = .ok (.ireturn, 1) := by decide +kernel
theorem dX2_addWeir_0 : decode cX2_addWeir 0 = .ok (.aload_n 0, 1) := by decide +kernel
theorem dX2_addWeir_1 : decode cX2_addWeir 1 = .ok (.getfield 19, 3) := by decide +kernel
theorem dX2_addWeir_4 : decode cX2_addWeir 4 = .ok (.bipush 6, 2) := by decide +kernel
theorem dX2_addWeir_6 : decode cX2_addWeir 6 = .ok (.if_icmp .ge 33, 3) := by decide +kernel
theorem dX2_addWeir_9 : decode cX2_addWeir 9 = .ok (.aload_n 0, 1) := by decide +kernel
theorem dX2_addWeir_10 : decode cX2_addWeir 10 = .ok (.getfield 13, 3) := by decide +kernel
theorem dX2_addWeir_13 : decode cX2_addWeir 13 = .ok (.aload_n 0, 1) := by decide +kernel
theorem dX2_addWeir_14 : decode cX2_addWeir 14 = .ok (.getfield 19, 3) := by decide +kernel
theorem dX2_addWeir_17 : decode cX2_addWeir 17 = .ok (.iload_n 1, 1) := by decide +kernel
theorem dX2_addWeir_18 : decode cX2_addWeir 18 = .ok (.iastore, 1) := by decide +kernel
theorem dX2_addWeir_19 : decode cX2_addWeir 19 = .ok (.aload_n 0, 1) := by decide +kernel
theorem dX2_addWeir_20 : decode cX2_addWeir 20 = .ok (.getfield 16, 3) := by decide +kernel
theorem dX2_addWeir_23 : decode cX2_addWeir 23 = .ok (.aload_n 0, 1) := by decide +kernel
theorem dX2_addWeir_24 : decode cX2_addWeir 24 = .ok (.getfield 19, 3) := by decide +kernel
theorem dX2_addWeir_27 : decode cX2_addWeir 27 = .ok (.iload_n 2, 1) := by decide +kernel
theorem dX2_addWeir_28 : decode cX2_addWeir 28 = .ok (.iastore, 1) := by decide +kernel
theorem dX2_addWeir_29 : decode cX2_addWeir 29 = .ok (.aload_n 0, 1) := by decide +kernel
theorem dX2_addWeir_30 : decode cX2_addWeir 30 = .ok (.dup, 1) := by decide +kernel
theorem dX2_addWeir_31 : decode cX2_addWeir 31 = .ok (.getfield 19, 3) := by decide +kernel
theorem dX2_addWeir_34 : decode cX2_addWeir 34 = .ok (.iconst 1, 1) := by decide +kernel
theorem dX2_addWeir_35 : decode cX2_addWeir 35 = .ok (.iadd, 1) := by decide +kernel
theorem dX2_addWeir_36 : decode cX2_addWeir 36 = .ok (.putfield 19, 3) := by decide +kernel
theorem dX2_addWeir_39 : decode cX2_addWeir 39 = .ok (.return_, 1) := by decide +kernel
theorem dX2_firstWeirBeyond_0 : decode cX2_firstWeirBeyond 0 = .ok (.iconst (-1), 1) := by decide +kernel
theorem dX2_firstWeirBeyond_1 : decode cX2_firstWeirBeyond 1 = .ok (.istore_n 2, 1) := by decide +kernel
theorem dX2_firstWeirBeyond_2 : decode cX2_firstWeirBeyond 2 = .ok (.iconst 0, 1) := by decide +kernel
theorem dX2_firstWeirBeyond_3 : decode cX2_firstWeirBeyond 3 = .ok (.istore_n 3, 1) := by decide +kernel
theorem dX2_firstWeirBeyond_4 : decode cX2_firstWeirBeyond 4 = .ok (.iload_n 3, 1) := by decide +kernel
theorem dX2_firstWeirBeyond_5 : decode cX2_firstWeirBeyond 5 = .ok (.aload_n 0, 1) := by decide +kernel
theorem dX2_firstWeirBeyond_6 : decode cX2_firstWeirBeyond 6 = .ok (.getfield 19, 3) := by decide +kernel
theorem dX2_firstWeirBeyond_9 : decode cX2_firstWeirBeyond 9 = .ok (.if_icmp .ge 41, 3) := by decide +kernel
theorem dX2_firstWeirBeyond_12 : decode cX2_firstWeirBeyond 12 = .ok (.aload_n 0, 1) := by decide +kernel
theorem dX2_firstWeirBeyond_13 : decode cX2_firstWeirBeyond 13 = .ok (.getfield 13, 3) := by decide +kernel
theorem dX2_firstWeirBeyond_16 : decode cX2_firstWeirBeyond 16 = .ok (.iload_n 3, 1) := by decide +kernel
theorem dX2_firstWeirBeyond_17 : decode cX2_firstWeirBeyond 17 = .ok (.iaload, 1) := by decide +kernel
theorem dX2_firstWeirBeyond_18 : decode cX2_firstWeirBeyond 18 = .ok (.iload_n 1, 1) := by decide +kernel
theorem dX2_firstWeirBeyond_19 : decode cX2_firstWeirBeyond 19 = .ok (.if_icmp .le 25, 3) := by decide +kernel
theorem dX2_firstWeirBeyond_22 : decode cX2_firstWeirBeyond 22 = .ok (.iload_n 2, 1) := by decide +kernel
theorem dX2_firstWeirBeyond_23 : decode cX2_firstWeirBeyond 23 = .ok (.iconst (-1), 1) := by decide +kernel
theorem dX2_firstWeirBeyond_24 : decode cX2_firstWeirBeyond 24 = .ok (.if_icmp .eq 13, 3) := by decide +kernel
theorem dX2_firstWeirBeyond_27 : decode cX2_firstWeirBeyond 27 = .ok (.aload_n 0, 1) := by decide +kernel
theorem dX2_firstWeirBeyond_28 : decode cX2_firstWeirBeyond 28 = .ok (.getfield 13, 3) := by decide +kernel
theorem dX2_firstWeirBeyond_31 : decode cX2_firstWeirBeyond 31 = .ok (.iload_n 3, 1) := by decide +kernel
theorem dX2_firstWeirBeyond_32 : decode cX2_firstWeirBeyond 32 = .ok (.iaload, 1) := by decide +kernel
theorem dX2_firstWeirBeyond_33 : decode cX2_firstWeirBeyond 33 = .ok (.iload_n 2, 1) := by decide +kernel
theorem dX2_firstWeirBeyond_34 : decode cX2_firstWeirBeyond 34 = .ok (.if_icmp .ge 10, 3) := by decide +kernel
theorem dX2_firstWeirBeyond_37 : decode cX2_firstWeirBeyond 37 = .ok (.aload_n 0, 1) := by decide +kernel
theorem dX2_firstWeirBeyond_38 : decode cX2_firstWeirBeyond 38 = .ok (.getfield 13, 3) := by decide +kernel
theorem dX2_firstWeirBeyond_41 : decode cX2_firstWeirBeyond 41 = .ok (.iload_n 3, 1) := by decide +kernel
theorem dX2_firstWeirBeyond_42 : decode cX2_firstWeirBeyond 42 = .ok (.iaload, 1) := by decide +kernel
theorem dX2_firstWeirBeyond_43 : decode cX2_firstWeirBeyond 43 = .ok (.istore_n 2, 1) := by decide +kernel
theorem dX2_firstWeirBeyond_44 : decode cX2_firstWeirBeyond 44 = .ok (.iinc 3 1, 3) := by decide +kernel
theorem dX2_firstWeirBeyond_47 : decode cX2_firstWeirBeyond 47 = .ok (.goto (-43), 3) := by decide +kernel
theorem dX2_firstWeirBeyond_50 : decode cX2_firstWeirBeyond 50 = .ok (.iload_n 2, 1) := by decide +kernel
theorem dX2_firstWeirBeyond_51 : decode cX2_firstWeirBeyond 51 = .ok (.ireturn, 1) := by decide +kernel
theorem dX2_firstStop_0 : decode cX2_firstStop 0 = .ok (.iconst (-1), 1) := by decide +kernel
theorem dX2_firstStop_1 : decode cX2_firstStop 1 = .ok (.istore 4, 2) := by decide +kernel
theorem dX2_firstStop_3 : decode cX2_firstStop 3 = .ok (.iconst 0, 1) := by decide +kernel
theorem dX2_firstStop_4 : decode cX2_firstStop 4 = .ok (.istore 5, 2) := by decide +kernel
theorem dX2_firstStop_6 : decode cX2_firstStop 6 = .ok (.iload 5, 2) := by decide +kernel
theorem dX2_firstStop_8 : decode cX2_firstStop 8 = .ok (.aload_n 0, 1) := by decide +kernel
theorem dX2_firstStop_9 : decode cX2_firstStop 9 = .ok (.getfield 19, 3) := by decide +kernel
theorem dX2_firstStop_12 : decode cX2_firstStop 12 = .ok (.if_icmp .ge 81, 3) := by decide +kernel
theorem dX2_firstStop_15 : decode cX2_firstStop 15 = .ok (.aload_n 0, 1) := by decide +kernel
theorem dX2_firstStop_16 : decode cX2_firstStop 16 = .ok (.getfield 13, 3) := by decide +kernel
theorem dX2_firstStop_19 : decode cX2_firstStop 19 = .ok (.iload 5, 2) := by decide +kernel
theorem dX2_firstStop_21 : decode cX2_firstStop 21 = .ok (.iaload, 1) := by decide +kernel
theorem dX2_firstStop_22 : decode cX2_firstStop 22 = .ok (.iload_n 1, 1) := by decide +kernel
theorem dX2_firstStop_23 : decode cX2_firstStop 23 = .ok (.if_icmp .le 18, 3) := by decide +kernel
theorem dX2_firstStop_26 : decode cX2_firstStop 26 = .ok (.aload_n 0, 1) := by decide +kernel
theorem dX2_firstStop_27 : decode cX2_firstStop 27 = .ok (.getfield 13, 3) := by decide +kernel
theorem dX2_firstStop_30 : decode cX2_firstStop 30 = .ok (.iload 5, 2) := by decide +kernel
theorem dX2_firstStop_32 : decode cX2_firstStop 32 = .ok (.iaload, 1) := by decide +kernel
theorem dX2_firstStop_33 : decode cX2_firstStop 33 = .ok (.iload_n 2, 1) := by decide +kernel
theorem dX2_firstStop_34 : decode cX2_firstStop 34 = .ok (.if_icmp .gt 7, 3) := by decide +kernel
theorem dX2_firstStop_37 : decode cX2_firstStop 37 = .ok (.iconst 1, 1) := by decide +kernel
theorem dX2_firstStop_38 : decode cX2_firstStop 38 = .ok (.goto 4, 3) := by decide +kernel
theorem dX2_firstStop_41 : decode cX2_firstStop 41 = .ok (.iconst 0, 1) := by decide +kernel
theorem dX2_firstStop_42 : decode cX2_firstStop 42 = .ok (.istore 6, 2) := by decide +kernel
theorem dX2_firstStop_44 : decode cX2_firstStop 44 = .ok (.iload 6, 2) := by decide +kernel
theorem dX2_firstStop_46 : decode cX2_firstStop 46 = .ok (.ifCond .eq 41, 3) := by decide +kernel
theorem dX2_firstStop_49 : decode cX2_firstStop 49 = .ok (.aload_n 0, 1) := by decide +kernel
theorem dX2_firstStop_50 : decode cX2_firstStop 50 = .ok (.getfield 16, 3) := by decide +kernel
theorem dX2_firstStop_53 : decode cX2_firstStop 53 = .ok (.iload 5, 2) := by decide +kernel
theorem dX2_firstStop_55 : decode cX2_firstStop 55 = .ok (.iaload, 1) := by decide +kernel
theorem dX2_firstStop_56 : decode cX2_firstStop 56 = .ok (.iload_n 3, 1) := by decide +kernel
theorem dX2_firstStop_57 : decode cX2_firstStop 57 = .ok (.if_icmp .eq 30, 3) := by decide +kernel
theorem dX2_firstStop_60 : decode cX2_firstStop 60 = .ok (.iload 4, 2) := by decide +kernel
theorem dX2_firstStop_62 : decode cX2_firstStop 62 = .ok (.iconst (-1), 1) := by decide +kernel
theorem dX2_firstStop_63 : decode cX2_firstStop 63 = .ok (.if_icmp .eq 15, 3) := by decide +kernel
theorem dX2_firstStop_66 : decode cX2_firstStop 66 = .ok (.aload_n 0, 1) := by decide +kernel
theorem dX2_firstStop_67 : decode cX2_firstStop 67 = .ok (.getfield 13, 3) := by decide +kernel
theorem dX2_firstStop_70 : decode cX2_firstStop 70 = .ok (.iload 5, 2) := by decide +kernel
theorem dX2_firstStop_72 : decode cX2_firstStop 72 = .ok (.iaload, 1) := by decide +kernel
theorem dX2_firstStop_73 : decode cX2_firstStop 73 = .ok (.iload 4, 2) := by decide +kernel
theorem dX2_firstStop_75 : decode cX2_firstStop 75 = .ok (.if_icmp .ge 12, 3) := by decide +kernel
theorem dX2_firstStop_78 : decode cX2_firstStop 78 = .ok (.aload_n 0, 1) := by decide +kernel
theorem dX2_firstStop_79 : decode cX2_firstStop 79 = .ok (.getfield 13, 3) := by decide +kernel
theorem dX2_firstStop_82 : decode cX2_firstStop 82 = .ok (.iload 5, 2) := by decide +kernel
theorem dX2_firstStop_84 : decode cX2_firstStop 84 = .ok (.iaload, 1) := by decide +kernel
theorem dX2_firstStop_85 : decode cX2_firstStop 85 = .ok (.istore 4, 2) := by decide +kernel
theorem dX2_firstStop_87 : decode cX2_firstStop 87 = .ok (.iinc 5 1, 3) := by decide +kernel
theorem dX2_firstStop_90 : decode cX2_firstStop 90 = .ok (.goto (-84), 3) := by decide +kernel
theorem dX2_firstStop_93 : decode cX2_firstStop 93 = .ok (.iload 4, 2) := by decide +kernel
theorem dX2_firstStop_95 : decode cX2_firstStop 95 = .ok (.ireturn, 1) := by decide +kernel
end
section
set_option maxRecDepth 20000 in
theorem ggX3_init_X2_init : GoodIn wsX3_init wsX2_init := goodIn_r _ [14, 15, 2, 3, 16, 17, 18, 19, 20, 46, 47, 48, 49] (by decide +kernel) (by decide +kernel)
set_option maxRecDepth 20000 in
theorem gX3_init_X2_init_n9 : GoodIn wsX3_init (wsX2_init) := ggX3_init_X2_init
set_option maxRecDepth 20000 in
theorem ggX3_init_X1_init : GoodIn wsX3_init wsX1_init := goodIn_r _ [23, 24, 2, 3, 25, 26, 27, 28, 29, 30, 31, 32, 33, 16, 34, 35, 36, 37, 38, 39, 40, 41, 42, 43, 44, 45, 53, 54, 55, 56, 57, 58, 59, 60, 61, 62, 63, 64, 65, 66, 67] (by decide +kernel) (by decide +kernel)
set_option maxRecDepth 20000 in
theorem gX3_init_X1_init : GoodIn wsX3_init (wsX1_init) := ggX3_init_X1_init
theorem dX3_init_0 : decode cX3_init 0 = .ok (.aload_n 0, 1) := by decide +kernel
theorem dX3_init_1 : decode cX3_init 1 = .ok (.invokespecial 1, 3) := by decide +kernel
theorem dX3_init_4 : decode cX3_init 4 = .ok (.aload_n 0, 1) := by decide +kernel
theorem dX3_init_5 : decode cX3_init 5 = .ok (.new 7, 3) := by decide +kernel
theorem dX3_init_8 : decode cX3_init 8 = .ok (.dup, 1) := by decide +kernel
theorem dX3_init_9 : decode cX3_init 9 = .ok (.invokespecial 9, 3) := by decide +kernel
theorem dX3_init_12 : decode cX3_init 12 = .ok (.putfield 10, 3) := by decide +kernel
theorem dX3_init_15 : decode cX3_init 15 = .ok (.aload_n 0, 1) := by decide +kernel
theorem dX3_init_16 : decode cX3_init 16 = .ok (.new 16, 3) := by decide +kernel
theorem dX3_init_19 : decode cX3_init 19 = .ok (.dup, 1) := by decide +kernel
theorem dX3_init_20 : decode cX3_init 20 = .ok (.invokespecial 18, 3) := by decide +kernel
theorem dX3_init_23 : decode cX3_init 23 = .ok (.putfield 19, 3) := by decide +kernel
theorem dX3_init_26 : decode cX3_init 26 = .ok (.aload_n 0, 1) := by decide +kernel
theorem dX3_init_27 : decode cX3_init 27 = .ok (.new 16, 3) := by decide +kernel
theorem dX3_init_30 : decode cX3_init 30 = .ok (.dup, 1) := by decide +kernel
theorem dX3_init_31 : decode cX3_init 31 = .ok (.invokespecial 18, 3) := by decide +kernel
theorem dX3_init_34 : decode cX3_init 34 = .ok (.putfield 23, 3) := by decide +kernel
theorem dX3_init_37 : decode cX3_init 37 = .ok (.return_, 1) := by decide +kernel
set_option maxRecDepth 20000 in
theorem ggX3_setWater_X2_isLane : GoodIn wsX3_setWater wsX2_isLane := goodIn_r _ [10] (by decide +kernel) (by decide +kernel)
set_option maxRecDepth 20000 in
theorem gX3_setWater_X2_isLane : GoodIn wsX3_setWater (va_wsS RX3 26 yX2_isLane wsX2_isLane) := goodIn_app (goodIn_of _ (by decide +kernel)) ggX3_setWater_X2_isLane
theorem dX3_setWater_0 : decode cX3_setWater 0 = .ok (.iload_n 1, 1) := by decide +kernel
theorem dX3_setWater_1 : decode cX3_setWater 1 = .ok (.invokestatic 26, 3) := by decide +kernel
theorem dX3_setWater_4 : decode cX3_setWater 4 = .ok (.ifCond .ne 13, 3) := by decide +kernel
theorem dX3_setWater_7 : decode cX3_setWater 7 = .ok (.new 30, 3) := by decide +kernel
theorem dX3_setWater_10 : decode cX3_setWater 10 = .ok (.dup, 1) := by decide +kernel
theorem dX3_setWater_11 : decode cX3_setWater 11 = .ok (.ldc 32, 2) := by decide +kernel
theorem dX3_setWater_13 : decode cX3_setWater 13 = .ok (.invokespecial 34, 3) := by decide +kernel
theorem dX3_setWater_16 : decode cX3_setWater 16 = .ok (.athrow, 1) := by decide +kernel
theorem dX3_setWater_17 : decode cX3_setWater 17 = .ok (.iload_n 2, 1) := by decide +kernel
theorem dX3_setWater_18 : decode cX3_setWater 18 = .ok (.ifCond .lt 9, 3) := by decide +kernel
theorem dX3_setWater_21 : decode cX3_setWater 21 = .ok (.iload_n 2, 1) := by decide +kernel
theorem dX3_setWater_22 : decode cX3_setWater 22 = .ok (.bipush 6, 2) := by decide +kernel
theorem dX3_setWater_24 : decode cX3_setWater 24 = .ok (.if_icmp .le 13, 3) := by decide +kernel
theorem dX3_setWater_27 : decode cX3_setWater 27 = .ok (.new 37, 3) := by decide +kernel
theorem dX3_setWater_30 : decode cX3_setWater 30 = .ok (.dup, 1) := by decide +kernel
theorem dX3_setWater_31 : decode cX3_setWater 31 = .ok (.ldc 39, 2) := by decide +kernel
theorem dX3_setWater_33 : decode cX3_setWater 33 = .ok (.invokespecial 41, 3) := by decide +kernel
theorem dX3_setWater_36 : decode cX3_setWater 36 = .ok (.athrow, 1) := by decide +kernel
theorem dX3_setWater_37 : decode cX3_setWater 37 = .ok (.aload_n 0, 1) := by decide +kernel
theorem dX3_setWater_38 : decode cX3_setWater 38 = .ok (.getfield 10, 3) := by decide +kernel
theorem dX3_setWater_41 : decode cX3_setWater 41 = .ok (.getfield 42, 3) := by decide +kernel
theorem dX3_setWater_44 : decode cX3_setWater 44 = .ok (.iload_n 1, 1) := by decide +kernel
theorem dX3_setWater_45 : decode cX3_setWater 45 = .ok (.iaload, 1) := by decide +kernel
theorem dX3_setWater_46 : decode cX3_setWater 46 = .ok (.istore_n 3, 1) := by decide +kernel
theorem dX3_setWater_47 : decode cX3_setWater 47 = .ok (.aload_n 0, 1) := by decide +kernel
theorem dX3_setWater_48 : decode cX3_setWater 48 = .ok (.getfield 10, 3) := by decide +kernel
theorem dX3_setWater_51 : decode cX3_setWater 51 = .ok (.getfield 42, 3) := by decide +kernel
theorem dX3_setWater_54 : decode cX3_setWater 54 = .ok (.iload_n 1, 1) := by decide +kernel
theorem dX3_setWater_55 : decode cX3_setWater 55 = .ok (.iload_n 2, 1) := by decide +kernel
theorem dX3_setWater_56 : decode cX3_setWater 56 = .ok (.iastore, 1) := by decide +kernel
theorem dX3_setWater_57 : decode cX3_setWater 57 = .ok (.iload_n 3, 1) := by decide +kernel
theorem dX3_setWater_58 : decode cX3_setWater 58 = .ok (.ireturn, 1) := by decide +kernel
set_option maxRecDepth 20000 in
theorem ggX3_weir_X2_isLane : GoodIn wsX3_weir wsX2_isLane := goodIn_r _ [10] (by decide +kernel) (by decide +kernel)
set_option maxRecDepth 20000 in
theorem gX3_weir_X2_isLane : GoodIn wsX3_weir (va_wsS RX3 26 yX2_isLane wsX2_isLane) := goodIn_app (goodIn_of _ (by decide +kernel)) ggX3_weir_X2_isLane
set_option maxRecDepth 20000 in
theorem ggX3_weir_X2_hasWeirAt : GoodIn wsX3_weir wsX2_hasWeirAt := goodIn_r _ [14, 15, 16, 25, 26, 27, 28] (by decide +kernel) (by decide +kernel)
set_option maxRecDepth 20000 in
theorem gX3_weir_X2_hasWeirAt : GoodIn wsX3_weir (wsV RX3 59 RX2 yX2_hasWeirAt wsX2_hasWeirAt) := goodIn_app (goodIn_of _ (by decide +kernel)) ggX3_weir_X2_hasWeirAt
set_option maxRecDepth 20000 in
theorem ggX3_weir_X2_addWeir : GoodIn wsX3_weir wsX2_addWeir := goodIn_r _ [20, 15, 16, 21, 25, 26, 27, 28] (by decide +kernel) (by decide +kernel)
set_option maxRecDepth 20000 in
theorem gX3_weir_X2_addWeir : GoodIn wsX3_weir (wsV RX3 64 RX2 yX2_addWeir wsX2_addWeir) := goodIn_app (goodIn_of _ (by decide +kernel)) ggX3_weir_X2_addWeir
theorem dX3_weir_0 : decode cX3_weir 0 = .ok (.iload_n 1, 1) := by decide +kernel
theorem dX3_weir_1 : decode cX3_weir 1 = .ok (.iconst 1, 1) := by decide +kernel
theorem dX3_weir_2 : decode cX3_weir 2 = .ok (.if_icmp .lt 10, 3) := by decide +kernel
theorem dX3_weir_5 : decode cX3_weir 5 = .ok (.iload_n 1, 1) := by decide +kernel
theorem dX3_weir_6 : decode cX3_weir 6 = .ok (.sipush 200, 3) := by decide +kernel
theorem dX3_weir_9 : decode cX3_weir 9 = .ok (.if_icmp .lt 13, 3) := by decide +kernel
theorem dX3_weir_12 : decode cX3_weir 12 = .ok (.new 37, 3) := by decide +kernel
theorem dX3_weir_15 : decode cX3_weir 15 = .ok (.dup, 1) := by decide +kernel
theorem dX3_weir_16 : decode cX3_weir 16 = .ok (.ldc 46, 2) := by decide +kernel
theorem dX3_weir_18 : decode cX3_weir 18 = .ok (.invokespecial 41, 3) := by decide +kernel
theorem dX3_weir_21 : decode cX3_weir 21 = .ok (.athrow, 1) := by decide +kernel
theorem dX3_weir_22 : decode cX3_weir 22 = .ok (.iload_n 2, 1) := by decide +kernel
theorem dX3_weir_23 : decode cX3_weir 23 = .ok (.invokestatic 26, 3) := by decide +kernel
theorem dX3_weir_26 : decode cX3_weir 26 = .ok (.ifCond .ne 13, 3) := by decide +kernel
theorem dX3_weir_29 : decode cX3_weir 29 = .ok (.new 37, 3) := by decide +kernel
theorem dX3_weir_32 : decode cX3_weir 32 = .ok (.dup, 1) := by decide +kernel
theorem dX3_weir_33 : decode cX3_weir 33 = .ok (.ldc 48, 2) := by decide +kernel
theorem dX3_weir_35 : decode cX3_weir 35 = .ok (.invokespecial 41, 3) := by decide +kernel
theorem dX3_weir_38 : decode cX3_weir 38 = .ok (.athrow, 1) := by decide +kernel
theorem dX3_weir_39 : decode cX3_weir 39 = .ok (.aload_n 0, 1) := by decide +kernel
theorem dX3_weir_40 : decode cX3_weir 40 = .ok (.getfield 10, 3) := by decide +kernel
theorem dX3_weir_43 : decode cX3_weir 43 = .ok (.getfield 50, 3) := by decide +kernel
theorem dX3_weir_46 : decode cX3_weir 46 = .ok (.bipush 6, 2) := by decide +kernel
theorem dX3_weir_48 : decode cX3_weir 48 = .ok (.if_icmp .lt 13, 3) := by decide +kernel
theorem dX3_weir_51 : decode cX3_weir 51 = .ok (.new 54, 3) := by decide +kernel
theorem dX3_weir_54 : decode cX3_weir 54 = .ok (.dup, 1) := by decide +kernel
theorem dX3_weir_55 : decode cX3_weir 55 = .ok (.ldc 56, 2) := by decide +kernel
theorem dX3_weir_57 : decode cX3_weir 57 = .ok (.invokespecial 58, 3) := by decide +kernel
theorem dX3_weir_60 : decode cX3_weir 60 = .ok (.athrow, 1) := by decide +kernel
theorem dX3_weir_61 : decode cX3_weir 61 = .ok (.aload_n 0, 1) := by decide +kernel
theorem dX3_weir_62 : decode cX3_weir 62 = .ok (.getfield 10, 3) := by decide +kernel
theorem dX3_weir_65 : decode cX3_weir 65 = .ok (.iload_n 1, 1) := by decide +kernel
theorem dX3_weir_66 : decode cX3_weir 66 = .ok (.invokevirtual 59, 3) := by decide +kernel
theorem dX3_weir_69 : decode cX3_weir 69 = .ok (.ifCond .eq 13, 3) := by decide +kernel
theorem dX3_weir_72 : decode cX3_weir 72 = .ok (.new 54, 3) := by decide +kernel
theorem dX3_weir_75 : decode cX3_weir 75 = .ok (.dup, 1) := by decide +kernel
theorem dX3_weir_76 : decode cX3_weir 76 = .ok (.ldc 62, 2) := by decide +kernel
theorem dX3_weir_78 : decode cX3_weir 78 = .ok (.invokespecial 58, 3) := by decide +kernel
theorem dX3_weir_81 : decode cX3_weir 81 = .ok (.athrow, 1) := by decide +kernel
theorem dX3_weir_82 : decode cX3_weir 82 = .ok (.aload_n 0, 1) := by decide +kernel
theorem dX3_weir_83 : decode cX3_weir 83 = .ok (.getfield 10, 3) := by decide +kernel
theorem dX3_weir_86 : decode cX3_weir 86 = .ok (.iload_n 1, 1) := by decide +kernel
theorem dX3_weir_87 : decode cX3_weir 87 = .ok (.iload_n 2, 1) := by decide +kernel
theorem dX3_weir_88 : decode cX3_weir 88 = .ok (.invokevirtual 64, 3) := by decide +kernel
theorem dX3_weir_91 : decode cX3_weir 91 = .ok (.aload_n 0, 1) := by decide +kernel
theorem dX3_weir_92 : decode cX3_weir 92 = .ok (.getfield 10, 3) := by decide +kernel
theorem dX3_weir_95 : decode cX3_weir 95 = .ok (.getfield 50, 3) := by decide +kernel
theorem dX3_weir_98 : decode cX3_weir 98 = .ok (.ireturn, 1) := by decide +kernel
set_option maxRecDepth 20000 in
theorem ggX3_launch_X2_isLane : GoodIn wsX3_launch wsX2_isLane := goodIn_r _ [10] (by decide +kernel) (by decide +kernel)
set_option maxRecDepth 20000 in
theorem gX3_launch_X2_isLane : GoodIn wsX3_launch (va_wsS RX3 26 yX2_isLane wsX2_isLane) := goodIn_app (goodIn_of _ (by decide +kernel)) ggX3_launch_X2_isLane
set_option maxRecDepth 20000 in
theorem ggX3_launch_X1_add : GoodIn wsX3_launch wsX1_add := goodIn_r _ [15, 16, 17, 18, 19, 20, 21, 22, 23, 24, 25, 26, 27, 28, 29, 30, 34, 35, 36, 37, 38, 39, 40, 41, 42, 43, 44, 45, 46, 47, 48] (by decide +kernel) (by decide +kernel)
set_option maxRecDepth 20000 in
theorem gX3_launch_X1_add : GoodIn wsX3_launch (wsV RX3 79 RX1 yX1_add wsX1_add) := goodIn_app (goodIn_of _ (by decide +kernel)) ggX3_launch_X1_add
theorem dX3_launch_0 : decode cX3_launch 0 = .ok (.iload_n 1, 1) := by decide +kernel
theorem dX3_launch_1 : decode cX3_launch 1 = .ok (.invokestatic 26, 3) := by decide +kernel
theorem dX3_launch_4 : decode cX3_launch 4 = .ok (.ifCond .ne 13, 3) := by decide +kernel
theorem dX3_launch_7 : decode cX3_launch 7 = .ok (.new 37, 3) := by decide +kernel
theorem dX3_launch_10 : decode cX3_launch 10 = .ok (.dup, 1) := by decide +kernel
theorem dX3_launch_11 : decode cX3_launch 11 = .ok (.ldc 68, 2) := by decide +kernel
theorem dX3_launch_13 : decode cX3_launch 13 = .ok (.invokespecial 41, 3) := by decide +kernel
theorem dX3_launch_16 : decode cX3_launch 16 = .ok (.athrow, 1) := by decide +kernel
theorem dX3_launch_17 : decode cX3_launch 17 = .ok (.iload_n 2, 1) := by decide +kernel
theorem dX3_launch_18 : decode cX3_launch 18 = .ok (.iconst 1, 1) := by decide +kernel
theorem dX3_launch_19 : decode cX3_launch 19 = .ok (.if_icmp .lt 9, 3) := by decide +kernel
theorem dX3_launch_22 : decode cX3_launch 22 = .ok (.iload_n 2, 1) := by decide +kernel
theorem dX3_launch_23 : decode cX3_launch 23 = .ok (.bipush 8, 2) := by decide +kernel
theorem dX3_launch_25 : decode cX3_launch 25 = .ok (.if_icmp .le 13, 3) := by decide +kernel
theorem dX3_launch_28 : decode cX3_launch 28 = .ok (.new 37, 3) := by decide +kernel
theorem dX3_launch_31 : decode cX3_launch 31 = .ok (.dup, 1) := by decide +kernel
theorem dX3_launch_32 : decode cX3_launch 32 = .ok (.ldc 72, 2) := by decide +kernel
theorem dX3_launch_34 : decode cX3_launch 34 = .ok (.invokespecial 41, 3) := by decide +kernel
theorem dX3_launch_37 : decode cX3_launch 37 = .ok (.athrow, 1) := by decide +kernel
theorem dX3_launch_38 : decode cX3_launch 38 = .ok (.aload_n 0, 1) := by decide +kernel
theorem dX3_launch_39 : decode cX3_launch 39 = .ok (.getfield 19, 3) := by decide +kernel
theorem dX3_launch_42 : decode cX3_launch 42 = .ok (.getfield 74, 3) := by decide +kernel
theorem dX3_launch_45 : decode cX3_launch 45 = .ok (.bipush 6, 2) := by decide +kernel
theorem dX3_launch_47 : decode cX3_launch 47 = .ok (.if_icmp .lt 13, 3) := by decide +kernel
theorem dX3_launch_50 : decode cX3_launch 50 = .ok (.new 54, 3) := by decide +kernel
theorem dX3_launch_53 : decode cX3_launch 53 = .ok (.dup, 1) := by decide +kernel
theorem dX3_launch_54 : decode cX3_launch 54 = .ok (.ldc 77, 2) := by decide +kernel
theorem dX3_launch_56 : decode cX3_launch 56 = .ok (.invokespecial 58, 3) := by decide +kernel
theorem dX3_launch_59 : decode cX3_launch 59 = .ok (.athrow, 1) := by decide +kernel
theorem dX3_launch_60 : decode cX3_launch 60 = .ok (.aload_n 0, 1) := by decide +kernel
theorem dX3_launch_61 : decode cX3_launch 61 = .ok (.getfield 19, 3) := by decide +kernel
theorem dX3_launch_64 : decode cX3_launch 64 = .ok (.iload_n 1, 1) := by decide +kernel
theorem dX3_launch_65 : decode cX3_launch 65 = .ok (.iload_n 2, 1) := by decide +kernel
theorem dX3_launch_66 : decode cX3_launch 66 = .ok (.invokevirtual 79, 3) := by decide +kernel
theorem dX3_launch_69 : decode cX3_launch 69 = .ok (.ireturn, 1) := by decide +kernel
set_option maxRecDepth 20000 in
theorem ggX3_paddle_X1_has : GoodIn wsX3_paddle wsX1_has := goodIn_r _ [12, 13, 28, 29, 30] (by decide +kernel) (by decide +kernel)
set_option maxRecDepth 20000 in
theorem gX3_paddle_X1_has : GoodIn wsX3_paddle (wsV RX3 83 RX1 yX1_has wsX1_has) := goodIn_app (goodIn_of _ (by decide +kernel)) ggX3_paddle_X1_has
set_option maxRecDepth 20000 in
theorem ggX3_paddle_X3_isPattern : GoodIn wsX3_paddle wsX3_isPattern := goodIn_r _ [17] (by decide +kernel) (by decide +kernel)
set_option maxRecDepth 20000 in
theorem gX3_paddle_X3_isPattern : GoodIn wsX3_paddle (va_wsS RX3 90 yX3_isPattern wsX3_isPattern) := goodIn_app (goodIn_of _ (by decide +kernel)) ggX3_paddle_X3_isPattern
set_option maxRecDepth 20000 in
theorem ggX3_paddle_X0_takePattern : GoodIn wsX3_paddle wsX0_takePattern := goodIn_r _ [22, 23, 24, 31, 32, 33, 34, 35, 36, 37, 38, 39, 40, 41, 42] (by decide +kernel) (by decide +kernel)
set_option maxRecDepth 20000 in
theorem gX3_paddle_X0_takePattern : GoodIn wsX3_paddle (wsV RX3 103 RX0 yX0_takePattern wsX0_takePattern) := goodIn_app (goodIn_of _ (by decide +kernel)) ggX3_paddle_X0_takePattern
theorem dX3_paddle_0 : decode cX3_paddle 0 = .ok (.aload_n 0, 1) := by decide +kernel
theorem dX3_paddle_1 : decode cX3_paddle 1 = .ok (.getfield 19, 3) := by decide +kernel
theorem dX3_paddle_4 : decode cX3_paddle 4 = .ok (.iload_n 1, 1) := by decide +kernel
theorem dX3_paddle_5 : decode cX3_paddle 5 = .ok (.invokevirtual 83, 3) := by decide +kernel
theorem dX3_paddle_8 : decode cX3_paddle 8 = .ok (.ifCond .ne 13, 3) := by decide +kernel
theorem dX3_paddle_11 : decode cX3_paddle 11 = .ok (.new 30, 3) := by decide +kernel
theorem dX3_paddle_14 : decode cX3_paddle 14 = .ok (.dup, 1) := by decide +kernel
theorem dX3_paddle_15 : decode cX3_paddle 15 = .ok (.ldc 86, 2) := by decide +kernel
theorem dX3_paddle_17 : decode cX3_paddle 17 = .ok (.invokespecial 34, 3) := by decide +kernel
theorem dX3_paddle_20 : decode cX3_paddle 20 = .ok (.athrow, 1) := by decide +kernel
theorem dX3_paddle_21 : decode cX3_paddle 21 = .ok (.iload_n 2, 1) := by decide +kernel
theorem dX3_paddle_22 : decode cX3_paddle 22 = .ok (.iconst 1, 1) := by decide +kernel
theorem dX3_paddle_23 : decode cX3_paddle 23 = .ok (.if_icmp .lt 9, 3) := by decide +kernel
theorem dX3_paddle_26 : decode cX3_paddle 26 = .ok (.iload_n 2, 1) := by decide +kernel
theorem dX3_paddle_27 : decode cX3_paddle 27 = .ok (.bipush 6, 2) := by decide +kernel
theorem dX3_paddle_29 : decode cX3_paddle 29 = .ok (.if_icmp .le 13, 3) := by decide +kernel
theorem dX3_paddle_32 : decode cX3_paddle 32 = .ok (.new 37, 3) := by decide +kernel
theorem dX3_paddle_35 : decode cX3_paddle 35 = .ok (.dup, 1) := by decide +kernel
theorem dX3_paddle_36 : decode cX3_paddle 36 = .ok (.ldc 88, 2) := by decide +kernel
theorem dX3_paddle_38 : decode cX3_paddle 38 = .ok (.invokespecial 41, 3) := by decide +kernel
theorem dX3_paddle_41 : decode cX3_paddle 41 = .ok (.athrow, 1) := by decide +kernel
theorem dX3_paddle_42 : decode cX3_paddle 42 = .ok (.iload_n 2, 1) := by decide +kernel
theorem dX3_paddle_43 : decode cX3_paddle 43 = .ok (.iload_n 3, 1) := by decide +kernel
theorem dX3_paddle_44 : decode cX3_paddle 44 = .ok (.invokestatic 90, 3) := by decide +kernel
theorem dX3_paddle_47 : decode cX3_paddle 47 = .ok (.ifCond .ne 13, 3) := by decide +kernel
theorem dX3_paddle_50 : decode cX3_paddle 50 = .ok (.new 37, 3) := by decide +kernel
theorem dX3_paddle_53 : decode cX3_paddle 53 = .ok (.dup, 1) := by decide +kernel
theorem dX3_paddle_54 : decode cX3_paddle 54 = .ok (.ldc 94, 2) := by decide +kernel
theorem dX3_paddle_56 : decode cX3_paddle 56 = .ok (.invokespecial 41, 3) := by decide +kernel
theorem dX3_paddle_59 : decode cX3_paddle 59 = .ok (.athrow, 1) := by decide +kernel
theorem dX3_paddle_60 : decode cX3_paddle 60 = .ok (.aload_n 0, 1) := by decide +kernel
theorem dX3_paddle_61 : decode cX3_paddle 61 = .ok (.getfield 19, 3) := by decide +kernel
theorem dX3_paddle_64 : decode cX3_paddle 64 = .ok (.getfield 96, 3) := by decide +kernel
theorem dX3_paddle_67 : decode cX3_paddle 67 = .ok (.iload_n 1, 1) := by decide +kernel
theorem dX3_paddle_68 : decode cX3_paddle 68 = .ok (.aaload, 1) := by decide +kernel
theorem dX3_paddle_69 : decode cX3_paddle 69 = .ok (.getfield 100, 3) := by decide +kernel
theorem dX3_paddle_72 : decode cX3_paddle 72 = .ok (.istore 4, 2) := by decide +kernel
theorem dX3_paddle_74 : decode cX3_paddle 74 = .ok (.aload_n 0, 1) := by decide +kernel
theorem dX3_paddle_75 : decode cX3_paddle 75 = .ok (.getfield 19, 3) := by decide +kernel
theorem dX3_paddle_78 : decode cX3_paddle 78 = .ok (.getfield 96, 3) := by decide +kernel
theorem dX3_paddle_81 : decode cX3_paddle 81 = .ok (.iload_n 1, 1) := by decide +kernel
theorem dX3_paddle_82 : decode cX3_paddle 82 = .ok (.aaload, 1) := by decide +kernel
theorem dX3_paddle_83 : decode cX3_paddle 83 = .ok (.iload_n 2, 1) := by decide +kernel
theorem dX3_paddle_84 : decode cX3_paddle 84 = .ok (.iload_n 3, 1) := by decide +kernel
theorem dX3_paddle_85 : decode cX3_paddle 85 = .ok (.invokevirtual 103, 3) := by decide +kernel
theorem dX3_paddle_88 : decode cX3_paddle 88 = .ok (.iload 4, 2) := by decide +kernel
theorem dX3_paddle_90 : decode cX3_paddle 90 = .ok (.ireturn, 1) := by decide +kernel
set_option maxRecDepth 20000 in
theorem ggX3_tar_X1_has : GoodIn wsX3_tar wsX1_has := goodIn_r _ [11, 12, 28, 29, 30] (by decide +kernel) (by decide +kernel)
set_option maxRecDepth 20000 in
theorem gX3_tar_X1_has : GoodIn wsX3_tar (wsV RX3 83 RX1 yX1_has wsX1_has) := goodIn_app (goodIn_of _ (by decide +kernel)) ggX3_tar_X1_has
set_option maxRecDepth 20000 in
theorem ggX3_tar_X0_isIn : GoodIn wsX3_tar wsX0_isIn := goodIn_r _ [17, 18, 31, 32, 33, 34, 35, 36, 37, 38, 39, 40, 41, 42] (by decide +kernel) (by decide +kernel)
set_option maxRecDepth 20000 in
theorem gX3_tar_X0_isIn : GoodIn wsX3_tar (wsV RX3 106 RX0 yX0_isIn wsX0_isIn) := goodIn_app (goodIn_of _ (by decide +kernel)) ggX3_tar_X0_isIn
set_option maxRecDepth 20000 in
theorem ggX3_tar_X0_dryOut : GoodIn wsX3_tar wsX0_dryOut := goodIn_r _ [22, 23, 24, 31, 32, 33, 34, 35, 36, 37, 38, 39, 40, 41, 42] (by decide +kernel) (by decide +kernel)
set_option maxRecDepth 20000 in
theorem gX3_tar_X0_dryOut : GoodIn wsX3_tar (wsV RX3 112 RX0 yX0_dryOut wsX0_dryOut) := goodIn_app (goodIn_of _ (by decide +kernel)) ggX3_tar_X0_dryOut
theorem dX3_tar_0 : decode cX3_tar 0 = .ok (.aload_n 0, 1) := by decide +kernel
theorem dX3_tar_1 : decode cX3_tar 1 = .ok (.getfield 19, 3) := by decide +kernel
theorem dX3_tar_4 : decode cX3_tar 4 = .ok (.iload_n 1, 1) := by decide +kernel
theorem dX3_tar_5 : decode cX3_tar 5 = .ok (.invokevirtual 83, 3) := by decide +kernel
theorem dX3_tar_8 : decode cX3_tar 8 = .ok (.ifCond .ne 13, 3) := by decide +kernel
theorem dX3_tar_11 : decode cX3_tar 11 = .ok (.new 30, 3) := by decide +kernel
theorem dX3_tar_14 : decode cX3_tar 14 = .ok (.dup, 1) := by decide +kernel
theorem dX3_tar_15 : decode cX3_tar 15 = .ok (.ldc 86, 2) := by decide +kernel
theorem dX3_tar_17 : decode cX3_tar 17 = .ok (.invokespecial 34, 3) := by decide +kernel
theorem dX3_tar_20 : decode cX3_tar 20 = .ok (.athrow, 1) := by decide +kernel
theorem dX3_tar_21 : decode cX3_tar 21 = .ok (.aload_n 0, 1) := by decide +kernel
theorem dX3_tar_22 : decode cX3_tar 22 = .ok (.getfield 19, 3) := by decide +kernel
theorem dX3_tar_25 : decode cX3_tar 25 = .ok (.getfield 96, 3) := by decide +kernel
theorem dX3_tar_28 : decode cX3_tar 28 = .ok (.iload_n 1, 1) := by decide +kernel
theorem dX3_tar_29 : decode cX3_tar 29 = .ok (.aaload, 1) := by decide +kernel
theorem dX3_tar_30 : decode cX3_tar 30 = .ok (.invokevirtual 106, 3) := by decide +kernel
theorem dX3_tar_33 : decode cX3_tar 33 = .ok (.ifCond .eq 13, 3) := by decide +kernel
theorem dX3_tar_36 : decode cX3_tar 36 = .ok (.new 54, 3) := by decide +kernel
theorem dX3_tar_39 : decode cX3_tar 39 = .ok (.dup, 1) := by decide +kernel
theorem dX3_tar_40 : decode cX3_tar 40 = .ok (.ldc 110, 2) := by decide +kernel
theorem dX3_tar_42 : decode cX3_tar 42 = .ok (.invokespecial 58, 3) := by decide +kernel
theorem dX3_tar_45 : decode cX3_tar 45 = .ok (.athrow, 1) := by decide +kernel
theorem dX3_tar_46 : decode cX3_tar 46 = .ok (.aload_n 0, 1) := by decide +kernel
theorem dX3_tar_47 : decode cX3_tar 47 = .ok (.getfield 19, 3) := by decide +kernel
theorem dX3_tar_50 : decode cX3_tar 50 = .ok (.getfield 96, 3) := by decide +kernel
theorem dX3_tar_53 : decode cX3_tar 53 = .ok (.iload_n 1, 1) := by decide +kernel
theorem dX3_tar_54 : decode cX3_tar 54 = .ok (.aaload, 1) := by decide +kernel
theorem dX3_tar_55 : decode cX3_tar 55 = .ok (.invokevirtual 112, 3) := by decide +kernel
theorem dX3_tar_58 : decode cX3_tar 58 = .ok (.ireturn, 1) := by decide +kernel
set_option maxRecDepth 20000 in
theorem ggX3_boat_X1_has : GoodIn wsX3_boat wsX1_has := goodIn_r _ [9, 10, 32, 33, 34] (by decide +kernel) (by decide +kernel)
set_option maxRecDepth 20000 in
theorem gX3_boat_X1_has : GoodIn wsX3_boat (wsV RX3 83 RX1 yX1_has wsX1_has) := goodIn_app (goodIn_of _ (by decide +kernel)) ggX3_boat_X1_has
set_option maxRecDepth 20000 in
theorem ggX3_boat_X0_fact : GoodIn wsX3_boat wsX0_fact := goodIn_r _ [15, 16, 17, 18, 19, 20, 21, 22, 23, 24, 25, 26, 14, 27, 28, 35, 36, 37, 38, 39, 40, 41, 42, 43, 44, 45, 46] (by decide +kernel) (by decide +kernel)
set_option maxRecDepth 20000 in
theorem gX3_boat_X0_fact : GoodIn wsX3_boat (wsV RX3 118 RX0 yX0_fact wsX0_fact) := goodIn_app (goodIn_of _ (by decide +kernel)) ggX3_boat_X0_fact
theorem dX3_boat_0 : decode cX3_boat 0 = .ok (.aload_n 0, 1) := by decide +kernel
theorem dX3_boat_1 : decode cX3_boat 1 = .ok (.getfield 19, 3) := by decide +kernel
theorem dX3_boat_4 : decode cX3_boat 4 = .ok (.iload_n 1, 1) := by decide +kernel
theorem dX3_boat_5 : decode cX3_boat 5 = .ok (.invokevirtual 83, 3) := by decide +kernel
theorem dX3_boat_8 : decode cX3_boat 8 = .ok (.ifCond .ne 13, 3) := by decide +kernel
theorem dX3_boat_11 : decode cX3_boat 11 = .ok (.new 30, 3) := by decide +kernel
theorem dX3_boat_14 : decode cX3_boat 14 = .ok (.dup, 1) := by decide +kernel
theorem dX3_boat_15 : decode cX3_boat 15 = .ok (.ldc 86, 2) := by decide +kernel
theorem dX3_boat_17 : decode cX3_boat 17 = .ok (.invokespecial 34, 3) := by decide +kernel
theorem dX3_boat_20 : decode cX3_boat 20 = .ok (.athrow, 1) := by decide +kernel
theorem dX3_boat_21 : decode cX3_boat 21 = .ok (.iload_n 2, 1) := by decide +kernel
theorem dX3_boat_22 : decode cX3_boat 22 = .ok (.ifCond .lt 9, 3) := by decide +kernel
theorem dX3_boat_25 : decode cX3_boat 25 = .ok (.iload_n 2, 1) := by decide +kernel
theorem dX3_boat_26 : decode cX3_boat 26 = .ok (.bipush 8, 2) := by decide +kernel
theorem dX3_boat_28 : decode cX3_boat 28 = .ok (.if_icmp .le 13, 3) := by decide +kernel
theorem dX3_boat_31 : decode cX3_boat 31 = .ok (.new 30, 3) := by decide +kernel
theorem dX3_boat_34 : decode cX3_boat 34 = .ok (.dup, 1) := by decide +kernel
theorem dX3_boat_35 : decode cX3_boat 35 = .ok (.ldc 116, 2) := by decide +kernel
theorem dX3_boat_37 : decode cX3_boat 37 = .ok (.invokespecial 34, 3) := by decide +kernel
theorem dX3_boat_40 : decode cX3_boat 40 = .ok (.athrow, 1) := by decide +kernel
theorem dX3_boat_41 : decode cX3_boat 41 = .ok (.aload_n 0, 1) := by decide +kernel
theorem dX3_boat_42 : decode cX3_boat 42 = .ok (.getfield 19, 3) := by decide +kernel
theorem dX3_boat_45 : decode cX3_boat 45 = .ok (.getfield 96, 3) := by decide +kernel
theorem dX3_boat_48 : decode cX3_boat 48 = .ok (.iload_n 1, 1) := by decide +kernel
theorem dX3_boat_49 : decode cX3_boat 49 = .ok (.aaload, 1) := by decide +kernel
theorem dX3_boat_50 : decode cX3_boat 50 = .ok (.iload_n 2, 1) := by decide +kernel
theorem dX3_boat_51 : decode cX3_boat 51 = .ok (.invokevirtual 118, 3) := by decide +kernel
theorem dX3_boat_54 : decode cX3_boat 54 = .ok (.ireturn, 1) := by decide +kernel
set_option maxRecDepth 20000 in
theorem ggX3_count_X3_countIn : GoodIn wsX3_count wsX3_countIn := goodIn_r _ [8, 9, 10, 11, 12, 13, 14, 15, 16, 17, 18, 19, 20, 21, 22, 23, 24, 25, 26, 27, 28, 29, 30, 31, 32, 33, 34, 35, 36, 37, 38, 39, 40, 41, 42, 43, 44, 45, 49, 50, 51, 46, 47, 48, 52, 53, 54, 55, 56, 57, 58, 59, 60, 61, 62, 63, 64, 65, 66, 67] (by decide +kernel) (by decide +kernel)
set_option maxRecDepth 20000 in
theorem gX3_count_X3_countIn : GoodIn wsX3_count (wsV RX3 124 RX3 yX3_countIn wsX3_countIn) := goodIn_app (goodIn_of _ (by decide +kernel)) ggX3_count_X3_countIn
theorem dX3_count_0 : decode cX3_count 0 = .ok (.iload_n 1, 1) := by decide +kernel
theorem dX3_count_1 : decode cX3_count 1 = .ok (.ifCond .lt 9, 3) := by decide +kernel
theorem dX3_count_4 : decode cX3_count 4 = .ok (.iload_n 1, 1) := by decide +kernel
theorem dX3_count_5 : decode cX3_count 5 = .ok (.bipush 6, 2) := by decide +kernel
theorem dX3_count_7 : decode cX3_count 7 = .ok (.if_icmp .le 13, 3) := by decide +kernel
theorem dX3_count_10 : decode cX3_count 10 = .ok (.new 30, 3) := by decide +kernel
theorem dX3_count_13 : decode cX3_count 13 = .ok (.dup, 1) := by decide +kernel
theorem dX3_count_14 : decode cX3_count 14 = .ok (.ldc 122, 2) := by decide +kernel
theorem dX3_count_16 : decode cX3_count 16 = .ok (.invokespecial 34, 3) := by decide +kernel
theorem dX3_count_19 : decode cX3_count 19 = .ok (.athrow, 1) := by decide +kernel
theorem dX3_count_20 : decode cX3_count 20 = .ok (.aload_n 0, 1) := by decide +kernel
theorem dX3_count_21 : decode cX3_count 21 = .ok (.aload_n 0, 1) := by decide +kernel
theorem dX3_count_22 : decode cX3_count 22 = .ok (.getfield 19, 3) := by decide +kernel
theorem dX3_count_25 : decode cX3_count 25 = .ok (.iload_n 1, 1) := by decide +kernel
theorem dX3_count_26 : decode cX3_count 26 = .ok (.invokevirtual 124, 3) := by decide +kernel
theorem dX3_count_29 : decode cX3_count 29 = .ok (.ireturn, 1) := by decide +kernel
set_option maxRecDepth 20000 in
theorem ggX3_next_X2_firstWeirBeyond : GoodIn wsX3_next wsX2_firstWeirBeyond := goodIn_r _ [8, 9, 10, 14, 15, 16, 17] (by decide +kernel) (by decide +kernel)
set_option maxRecDepth 20000 in
theorem gX3_next_X2_firstWeirBeyond : GoodIn wsX3_next (wsV RX3 130 RX2 yX2_firstWeirBeyond wsX2_firstWeirBeyond) := goodIn_app (goodIn_of _ (by decide +kernel)) ggX3_next_X2_firstWeirBeyond
theorem dX3_next_0 : decode cX3_next 0 = .ok (.iload_n 1, 1) := by decide +kernel
theorem dX3_next_1 : decode cX3_next 1 = .ok (.ifCond .lt 10, 3) := by decide +kernel
theorem dX3_next_4 : decode cX3_next 4 = .ok (.iload_n 1, 1) := by decide +kernel
theorem dX3_next_5 : decode cX3_next 5 = .ok (.sipush 200, 3) := by decide +kernel
theorem dX3_next_8 : decode cX3_next 8 = .ok (.if_icmp .le 13, 3) := by decide +kernel
theorem dX3_next_11 : decode cX3_next 11 = .ok (.new 37, 3) := by decide +kernel
theorem dX3_next_14 : decode cX3_next 14 = .ok (.dup, 1) := by decide +kernel
theorem dX3_next_15 : decode cX3_next 15 = .ok (.ldc 128, 2) := by decide +kernel
theorem dX3_next_17 : decode cX3_next 17 = .ok (.invokespecial 41, 3) := by decide +kernel
theorem dX3_next_20 : decode cX3_next 20 = .ok (.athrow, 1) := by decide +kernel
theorem dX3_next_21 : decode cX3_next 21 = .ok (.aload_n 0, 1) := by decide +kernel
theorem dX3_next_22 : decode cX3_next 22 = .ok (.getfield 10, 3) := by decide +kernel
theorem dX3_next_25 : decode cX3_next 25 = .ok (.iload_n 1, 1) := by decide +kernel
theorem dX3_next_26 : decode cX3_next 26 = .ok (.invokevirtual 130, 3) := by decide +kernel
theorem dX3_next_29 : decode cX3_next 29 = .ok (.ireturn, 1) := by decide +kernel
set_option maxRecDepth 20000 in
theorem ggX3_rank_X1_has : GoodIn wsX3_rank wsX1_has := goodIn_r _ [9, 10, 32, 33, 34] (by decide +kernel) (by decide +kernel)
set_option maxRecDepth 20000 in
theorem gX3_rank_X1_has : GoodIn wsX3_rank (wsV RX3 83 RX1 yX1_has wsX1_has) := goodIn_app (goodIn_of _ (by decide +kernel)) ggX3_rank_X1_has
set_option maxRecDepth 20000 in
theorem ggX3_rank_X1_rankOf : GoodIn wsX3_rank wsX1_rankOf := goodIn_r _ [14, 10, 15, 16, 17, 18, 19, 20, 21, 22, 23, 24, 25, 26, 27, 28, 32, 33, 34, 35, 36, 37, 38, 39, 40, 41, 42, 43, 44, 45, 46] (by decide +kernel) (by decide +kernel)
set_option maxRecDepth 20000 in
theorem gX3_rank_X1_rankOf : GoodIn wsX3_rank (wsV RX3 133 RX1 yX1_rankOf wsX1_rankOf) := goodIn_app (goodIn_of _ (by decide +kernel)) ggX3_rank_X1_rankOf
theorem dX3_rank_0 : decode cX3_rank 0 = .ok (.aload_n 0, 1) := by decide +kernel
theorem dX3_rank_1 : decode cX3_rank 1 = .ok (.getfield 19, 3) := by decide +kernel
theorem dX3_rank_4 : decode cX3_rank 4 = .ok (.iload_n 1, 1) := by decide +kernel
theorem dX3_rank_5 : decode cX3_rank 5 = .ok (.invokevirtual 83, 3) := by decide +kernel
theorem dX3_rank_8 : decode cX3_rank 8 = .ok (.ifCond .ne 13, 3) := by decide +kernel
theorem dX3_rank_11 : decode cX3_rank 11 = .ok (.new 30, 3) := by decide +kernel
theorem dX3_rank_14 : decode cX3_rank 14 = .ok (.dup, 1) := by decide +kernel
theorem dX3_rank_15 : decode cX3_rank 15 = .ok (.ldc 86, 2) := by decide +kernel
theorem dX3_rank_17 : decode cX3_rank 17 = .ok (.invokespecial 34, 3) := by decide +kernel
theorem dX3_rank_20 : decode cX3_rank 20 = .ok (.athrow, 1) := by decide +kernel
theorem dX3_rank_21 : decode cX3_rank 21 = .ok (.aload_n 0, 1) := by decide +kernel
theorem dX3_rank_22 : decode cX3_rank 22 = .ok (.getfield 19, 3) := by decide +kernel
theorem dX3_rank_25 : decode cX3_rank 25 = .ok (.aload_n 0, 1) := by decide +kernel
theorem dX3_rank_26 : decode cX3_rank 26 = .ok (.getfield 19, 3) := by decide +kernel
theorem dX3_rank_29 : decode cX3_rank 29 = .ok (.getfield 96, 3) := by decide +kernel
theorem dX3_rank_32 : decode cX3_rank 32 = .ok (.iload_n 1, 1) := by decide +kernel
theorem dX3_rank_33 : decode cX3_rank 33 = .ok (.aaload, 1) := by decide +kernel
theorem dX3_rank_34 : decode cX3_rank 34 = .ok (.invokevirtual 133, 3) := by decide +kernel
theorem dX3_rank_37 : decode cX3_rank 37 = .ok (.ireturn, 1) := by decide +kernel
set_option maxRecDepth 20000 in
theorem ggX3_go_X1_boatsIn : GoodIn wsX3_go wsX1_boatsIn := goodIn_r _ [9, 10, 11, 12, 13, 14, 15, 16, 17, 91, 92, 93, 94, 95, 96, 97, 98, 99, 100, 101, 102, 103, 104, 105] (by decide +kernel) (by decide +kernel)
set_option maxRecDepth 20000 in
theorem gX3_go_X1_boatsIn : GoodIn wsX3_go (wsV RX3 139 RX1 yX1_boatsIn wsX1_boatsIn) := goodIn_app (goodIn_of _ (by decide +kernel)) ggX3_go_X1_boatsIn
set_option maxRecDepth 20000 in
theorem ggX3_go_X1_letTicksGoBy : GoodIn wsX3_go wsX1_letTicksGoBy := goodIn_r _ [21, 10, 11, 22, 23, 24, 25, 15, 26, 17, 27, 28, 29, 30, 31, 32, 33, 34, 35, 36, 37, 38, 39, 40, 41, 42, 43, 44, 45, 46, 47, 48, 49, 50, 51, 52, 53, 54, 55, 56, 57, 58, 59, 60, 61, 62, 63, 64, 65, 66, 67, 68, 69, 70, 71, 72, 73, 74, 75, 76, 77, 78, 79, 80, 81, 82, 83, 84, 85, 86, 87, 91, 92, 93, 94, 95, 96, 97, 98, 99, 100, 101, 102, 103, 104, 105, 106, 107, 108, 109] (by decide +kernel) (by decide +kernel)
set_option maxRecDepth 20000 in
theorem gX3_go_X1_letTicksGoBy : GoodIn wsX3_go (wsV RX3 142 RX1 yX1_letTicksGoBy wsX1_letTicksGoBy) := goodIn_app (goodIn_of _ (by decide +kernel)) ggX3_go_X1_letTicksGoBy
theorem dX3_go_0 : decode cX3_go 0 = .ok (.iload_n 1, 1) := by decide +kernel
theorem dX3_go_1 : decode cX3_go 1 = .ok (.iconst 1, 1) := by decide +kernel
theorem dX3_go_2 : decode cX3_go 2 = .ok (.if_icmp .lt 10, 3) := by decide +kernel
theorem dX3_go_5 : decode cX3_go 5 = .ok (.iload_n 1, 1) := by decide +kernel
theorem dX3_go_6 : decode cX3_go 6 = .ok (.sipush 200, 3) := by decide +kernel
theorem dX3_go_9 : decode cX3_go 9 = .ok (.if_icmp .le 13, 3) := by decide +kernel
theorem dX3_go_12 : decode cX3_go 12 = .ok (.new 37, 3) := by decide +kernel
theorem dX3_go_15 : decode cX3_go 15 = .ok (.dup, 1) := by decide +kernel
theorem dX3_go_16 : decode cX3_go 16 = .ok (.ldc 137, 2) := by decide +kernel
theorem dX3_go_18 : decode cX3_go 18 = .ok (.invokespecial 41, 3) := by decide +kernel
theorem dX3_go_21 : decode cX3_go 21 = .ok (.athrow, 1) := by decide +kernel
theorem dX3_go_22 : decode cX3_go 22 = .ok (.aload_n 0, 1) := by decide +kernel
theorem dX3_go_23 : decode cX3_go 23 = .ok (.getfield 19, 3) := by decide +kernel
theorem dX3_go_26 : decode cX3_go 26 = .ok (.invokevirtual 139, 3) := by decide +kernel
theorem dX3_go_29 : decode cX3_go 29 = .ok (.istore_n 2, 1) := by decide +kernel
theorem dX3_go_30 : decode cX3_go 30 = .ok (.aload_n 0, 1) := by decide +kernel
theorem dX3_go_31 : decode cX3_go 31 = .ok (.getfield 19, 3) := by decide +kernel
theorem dX3_go_34 : decode cX3_go 34 = .ok (.aload_n 0, 1) := by decide +kernel
theorem dX3_go_35 : decode cX3_go 35 = .ok (.getfield 10, 3) := by decide +kernel
theorem dX3_go_38 : decode cX3_go 38 = .ok (.iload_n 1, 1) := by decide +kernel
theorem dX3_go_39 : decode cX3_go 39 = .ok (.invokevirtual 142, 3) := by decide +kernel
theorem dX3_go_42 : decode cX3_go 42 = .ok (.aload_n 0, 1) := by decide +kernel
theorem dX3_go_43 : decode cX3_go 43 = .ok (.getfield 19, 3) := by decide +kernel
theorem dX3_go_46 : decode cX3_go 46 = .ok (.invokevirtual 139, 3) := by decide +kernel
theorem dX3_go_49 : decode cX3_go 49 = .ok (.iload_n 2, 1) := by decide +kernel
theorem dX3_go_50 : decode cX3_go 50 = .ok (.isub, 1) := by decide +kernel
theorem dX3_go_51 : decode cX3_go 51 = .ok (.ireturn, 1) := by decide +kernel
set_option maxRecDepth 20000 in
theorem ggX3_arrives_X1_has : GoodIn wsX3_arrives wsX1_has := goodIn_r _ [12, 13, 96, 97, 98] (by decide +kernel) (by decide +kernel)
set_option maxRecDepth 20000 in
theorem gX3_arrives_X1_has : GoodIn wsX3_arrives (wsV RX3 83 RX1 yX1_has wsX1_has) := goodIn_app (goodIn_of _ (by decide +kernel)) ggX3_arrives_X1_has
set_option maxRecDepth 20000 in
theorem ggX3_arrives_X0_copyFrom : GoodIn wsX3_arrives wsX0_copyFrom := goodIn_r _ [18, 19, 20, 21, 22, 23, 24, 25, 26, 27, 28, 29, 30, 31, 32, 33, 34, 99, 100, 101, 102, 103, 104, 105, 106, 107, 108, 109, 110] (by decide +kernel) (by decide +kernel)
set_option maxRecDepth 20000 in
theorem gX3_arrives_X0_copyFrom : GoodIn wsX3_arrives (wsV RX3 146 RX0 yX0_copyFrom wsX0_copyFrom) := goodIn_app (goodIn_of _ (by decide +kernel)) ggX3_arrives_X0_copyFrom
set_option maxRecDepth 20000 in
theorem ggX3_arrives_X0_isIn : GoodIn wsX3_arrives wsX0_isIn := goodIn_r _ [38, 31, 99, 100, 101, 102, 103, 104, 105, 106, 107, 108, 109, 110] (by decide +kernel) (by decide +kernel)
set_option maxRecDepth 20000 in
theorem gX3_arrives_X0_isIn : GoodIn wsX3_arrives (wsV RX3 106 RX0 yX0_isIn wsX0_isIn) := goodIn_app (goodIn_of _ (by decide +kernel)) ggX3_arrives_X0_isIn
set_option maxRecDepth 20000 in
theorem ggX3_arrives_X0_letTickGoBy : GoodIn wsX3_arrives wsX0_letTickGoBy := goodIn_r _ [42, 31, 26, 32, 43, 44, 45, 17, 46, 24, 19, 47, 48, 49, 50, 51, 52, 53, 54, 28, 33, 29, 55, 56, 57, 58, 59, 60, 61, 62, 25, 63, 64, 65, 66, 27, 30, 67, 68, 69, 70, 71, 72, 73, 74, 75, 76, 77, 78, 79, 80, 81, 34, 82, 83, 84, 85, 86, 87, 88, 89, 90, 91, 92, 99, 100, 101, 102, 103, 104, 105, 106, 107, 108, 109, 110, 111, 112, 113, 114] (by decide +kernel) (by decide +kernel)
set_option maxRecDepth 20000 in
theorem gX3_arrives_X0_letTickGoBy : GoodIn wsX3_arrives (wsV RX3 153 RX0 yX0_letTickGoBy wsX0_letTickGoBy) := goodIn_app (goodIn_of _ (by decide +kernel)) ggX3_arrives_X0_letTickGoBy
theorem dX3_arrives_0 : decode cX3_arrives 0 = .ok (.aload_n 0, 1) := by decide +kernel
theorem dX3_arrives_1 : decode cX3_arrives 1 = .ok (.getfield 19, 3) := by decide +kernel
theorem dX3_arrives_4 : decode cX3_arrives 4 = .ok (.iload_n 1, 1) := by decide +kernel
theorem dX3_arrives_5 : decode cX3_arrives 5 = .ok (.invokevirtual 83, 3) := by decide +kernel
theorem dX3_arrives_8 : decode cX3_arrives 8 = .ok (.ifCond .ne 13, 3) := by decide +kernel
theorem dX3_arrives_11 : decode cX3_arrives 11 = .ok (.new 30, 3) := by decide +kernel
theorem dX3_arrives_14 : decode cX3_arrives 14 = .ok (.dup, 1) := by decide +kernel
theorem dX3_arrives_15 : decode cX3_arrives 15 = .ok (.ldc 86, 2) := by decide +kernel
theorem dX3_arrives_17 : decode cX3_arrives 17 = .ok (.invokespecial 34, 3) := by decide +kernel
theorem dX3_arrives_20 : decode cX3_arrives 20 = .ok (.athrow, 1) := by decide +kernel
theorem dX3_arrives_21 : decode cX3_arrives 21 = .ok (.aload_n 0, 1) := by decide +kernel
theorem dX3_arrives_22 : decode cX3_arrives 22 = .ok (.getfield 23, 3) := by decide +kernel
theorem dX3_arrives_25 : decode cX3_arrives 25 = .ok (.getfield 96, 3) := by decide +kernel
theorem dX3_arrives_28 : decode cX3_arrives 28 = .ok (.iload_n 1, 1) := by decide +kernel
theorem dX3_arrives_29 : decode cX3_arrives 29 = .ok (.aaload, 1) := by decide +kernel
theorem dX3_arrives_30 : decode cX3_arrives 30 = .ok (.astore_n 2, 1) := by decide +kernel
theorem dX3_arrives_31 : decode cX3_arrives 31 = .ok (.aload_n 2, 1) := by decide +kernel
theorem dX3_arrives_32 : decode cX3_arrives 32 = .ok (.aload_n 0, 1) := by decide +kernel
theorem dX3_arrives_33 : decode cX3_arrives 33 = .ok (.getfield 19, 3) := by decide +kernel
theorem dX3_arrives_36 : decode cX3_arrives 36 = .ok (.getfield 96, 3) := by decide +kernel
theorem dX3_arrives_39 : decode cX3_arrives 39 = .ok (.iload_n 1, 1) := by decide +kernel
theorem dX3_arrives_40 : decode cX3_arrives 40 = .ok (.aaload, 1) := by decide +kernel
theorem dX3_arrives_41 : decode cX3_arrives 41 = .ok (.invokevirtual 146, 3) := by decide +kernel
theorem dX3_arrives_44 : decode cX3_arrives 44 = .ok (.aload_n 2, 1) := by decide +kernel
theorem dX3_arrives_45 : decode cX3_arrives 45 = .ok (.invokevirtual 106, 3) := by decide +kernel
theorem dX3_arrives_48 : decode cX3_arrives 48 = .ok (.ifCond .eq 5, 3) := by decide +kernel
theorem dX3_arrives_51 : decode cX3_arrives 51 = .ok (.iconst 0, 1) := by decide +kernel
theorem dX3_arrives_52 : decode cX3_arrives 52 = .ok (.ireturn, 1) := by decide +kernel
theorem dX3_arrives_53 : decode cX3_arrives 53 = .ok (.iconst 1, 1) := by decide +kernel
theorem dX3_arrives_54 : decode cX3_arrives 54 = .ok (.istore_n 3, 1) := by decide +kernel
theorem dX3_arrives_55 : decode cX3_arrives 55 = .ok (.iload_n 3, 1) := by decide +kernel
theorem dX3_arrives_56 : decode cX3_arrives 56 = .ok (.sipush 400, 3) := by decide +kernel
theorem dX3_arrives_59 : decode cX3_arrives 59 = .ok (.if_icmp .gt 37, 3) := by decide +kernel
theorem dX3_arrives_62 : decode cX3_arrives 62 = .ok (.aload_n 2, 1) := by decide +kernel
theorem dX3_arrives_63 : decode cX3_arrives 63 = .ok (.aload_n 0, 1) := by decide +kernel
theorem dX3_arrives_64 : decode cX3_arrives 64 = .ok (.getfield 10, 3) := by decide +kernel
theorem dX3_arrives_67 : decode cX3_arrives 67 = .ok (.aload_n 0, 1) := by decide +kernel
theorem dX3_arrives_68 : decode cX3_arrives 68 = .ok (.getfield 19, 3) := by decide +kernel
theorem dX3_arrives_71 : decode cX3_arrives 71 = .ok (.getfield 150, 3) := by decide +kernel
theorem dX3_arrives_74 : decode cX3_arrives 74 = .ok (.iload_n 3, 1) := by decide +kernel
theorem dX3_arrives_75 : decode cX3_arrives 75 = .ok (.iadd, 1) := by decide +kernel
theorem dX3_arrives_76 : decode cX3_arrives 76 = .ok (.iconst 1, 1) := by decide +kernel
theorem dX3_arrives_77 : decode cX3_arrives 77 = .ok (.isub, 1) := by decide +kernel
theorem dX3_arrives_78 : decode cX3_arrives 78 = .ok (.invokevirtual 153, 3) := by decide +kernel
theorem dX3_arrives_81 : decode cX3_arrives 81 = .ok (.aload_n 2, 1) := by decide +kernel
theorem dX3_arrives_82 : decode cX3_arrives 82 = .ok (.invokevirtual 106, 3) := by decide +kernel
theorem dX3_arrives_85 : decode cX3_arrives 85 = .ok (.ifCond .eq 5, 3) := by decide +kernel
theorem dX3_arrives_88 : decode cX3_arrives 88 = .ok (.iload_n 3, 1) := by decide +kernel
theorem dX3_arrives_89 : decode cX3_arrives 89 = .ok (.ireturn, 1) := by decide +kernel
theorem dX3_arrives_90 : decode cX3_arrives 90 = .ok (.iinc 3 1, 3) := by decide +kernel
theorem dX3_arrives_93 : decode cX3_arrives 93 = .ok (.goto (-38), 3) := by decide +kernel
theorem dX3_arrives_96 : decode cX3_arrives 96 = .ok (.iconst (-1), 1) := by decide +kernel
theorem dX3_arrives_97 : decode cX3_arrives 97 = .ok (.ireturn, 1) := by decide +kernel
set_option maxRecDepth 20000 in
theorem ggX3_foresee_X1_copyFrom : GoodIn wsX3_foresee wsX1_copyFrom := goodIn_r _ [12, 13, 14, 15, 16, 17, 18, 19, 20, 21, 22, 23, 24, 25, 26, 27, 28, 29, 30, 31, 32, 33, 34, 35, 36, 132, 133, 134, 135, 136, 137, 138, 139, 140, 141, 142, 143, 144, 145, 146] (by decide +kernel) (by decide +kernel)
set_option maxRecDepth 20000 in
theorem gX3_foresee_X1_copyFrom : GoodIn wsX3_foresee (wsV RX3 158 RX1 yX1_copyFrom wsX1_copyFrom) := goodIn_app (goodIn_of _ (by decide +kernel)) ggX3_foresee_X1_copyFrom
set_option maxRecDepth 20000 in
theorem ggX3_foresee_X1_letTicksGoBy : GoodIn wsX3_foresee wsX1_letTicksGoBy := goodIn_r _ [40, 13, 15, 14, 41, 42, 43, 19, 44, 33, 28, 34, 45, 46, 47, 48, 26, 21, 49, 50, 51, 52, 53, 54, 55, 56, 30, 35, 31, 57, 58, 59, 60, 61, 62, 63, 64, 27, 65, 66, 67, 68, 29, 32, 69, 70, 71, 72, 73, 74, 75, 76, 77, 78, 79, 80, 81, 82, 83, 36, 84, 85, 86, 87, 88, 89, 90, 91, 92, 93, 94, 132, 133, 134, 135, 136, 137, 138, 139, 140, 141, 142, 143, 144, 145, 146, 147, 148, 149, 150] (by decide +kernel) (by decide +kernel)
set_option maxRecDepth 20000 in
theorem gX3_foresee_X1_letTicksGoBy : GoodIn wsX3_foresee (wsV RX3 142 RX1 yX1_letTicksGoBy wsX1_letTicksGoBy) := goodIn_app (goodIn_of _ (by decide +kernel)) ggX3_foresee_X1_letTicksGoBy
set_option maxRecDepth 20000 in
theorem ggX3_foresee_X3_countIn : GoodIn wsX3_foresee wsX3_countIn := goodIn_r _ [99, 100, 101, 7, 102, 103, 104, 105, 11, 106, 13, 15, 107, 108, 109, 19, 110, 33, 111, 112, 113, 114, 115, 116, 117, 118, 119, 120, 121, 122, 123, 124, 125, 126, 127, 128, 34, 32, 132, 133, 134, 129, 130, 131, 147, 148, 149, 150, 135, 136, 137, 138, 139, 140, 141, 142, 143, 144, 145, 146] (by decide +kernel) (by decide +kernel)
set_option maxRecDepth 20000 in
theorem gX3_foresee_X3_countIn : GoodIn wsX3_foresee (wsV RX3 124 RX3 yX3_countIn wsX3_countIn) := goodIn_app (goodIn_of _ (by decide +kernel)) ggX3_foresee_X3_countIn
theorem dX3_foresee_0 : decode cX3_foresee 0 = .ok (.iload_n 1, 1) := by decide +kernel
theorem dX3_foresee_1 : decode cX3_foresee 1 = .ok (.iconst 1, 1) := by decide +kernel
theorem dX3_foresee_2 : decode cX3_foresee 2 = .ok (.if_icmp .lt 10, 3) := by decide +kernel
theorem dX3_foresee_5 : decode cX3_foresee 5 = .ok (.iload_n 1, 1) := by decide +kernel
theorem dX3_foresee_6 : decode cX3_foresee 6 = .ok (.sipush 200, 3) := by decide +kernel
theorem dX3_foresee_9 : decode cX3_foresee 9 = .ok (.if_icmp .le 13, 3) := by decide +kernel
theorem dX3_foresee_12 : decode cX3_foresee 12 = .ok (.new 37, 3) := by decide +kernel
theorem dX3_foresee_15 : decode cX3_foresee 15 = .ok (.dup, 1) := by decide +kernel
theorem dX3_foresee_16 : decode cX3_foresee 16 = .ok (.ldc 137, 2) := by decide +kernel
theorem dX3_foresee_18 : decode cX3_foresee 18 = .ok (.invokespecial 41, 3) := by decide +kernel
theorem dX3_foresee_21 : decode cX3_foresee 21 = .ok (.athrow, 1) := by decide +kernel
theorem dX3_foresee_22 : decode cX3_foresee 22 = .ok (.iload_n 2, 1) := by decide +kernel
theorem dX3_foresee_23 : decode cX3_foresee 23 = .ok (.iconst 3, 1) := by decide +kernel
theorem dX3_foresee_24 : decode cX3_foresee 24 = .ok (.if_icmp .lt 9, 3) := by decide +kernel
theorem dX3_foresee_27 : decode cX3_foresee 27 = .ok (.iload_n 2, 1) := by decide +kernel
theorem dX3_foresee_28 : decode cX3_foresee 28 = .ok (.bipush 6, 2) := by decide +kernel
theorem dX3_foresee_30 : decode cX3_foresee 30 = .ok (.if_icmp .le 13, 3) := by decide +kernel
theorem dX3_foresee_33 : decode cX3_foresee 33 = .ok (.new 30, 3) := by decide +kernel
theorem dX3_foresee_36 : decode cX3_foresee 36 = .ok (.dup, 1) := by decide +kernel
theorem dX3_foresee_37 : decode cX3_foresee 37 = .ok (.ldc 156, 2) := by decide +kernel
theorem dX3_foresee_39 : decode cX3_foresee 39 = .ok (.invokespecial 34, 3) := by decide +kernel
theorem dX3_foresee_42 : decode cX3_foresee 42 = .ok (.athrow, 1) := by decide +kernel
theorem dX3_foresee_43 : decode cX3_foresee 43 = .ok (.aload_n 0, 1) := by decide +kernel
theorem dX3_foresee_44 : decode cX3_foresee 44 = .ok (.getfield 23, 3) := by decide +kernel
theorem dX3_foresee_47 : decode cX3_foresee 47 = .ok (.aload_n 0, 1) := by decide +kernel
theorem dX3_foresee_48 : decode cX3_foresee 48 = .ok (.getfield 19, 3) := by decide +kernel
theorem dX3_foresee_51 : decode cX3_foresee 51 = .ok (.invokevirtual 158, 3) := by decide +kernel
theorem dX3_foresee_54 : decode cX3_foresee 54 = .ok (.aload_n 0, 1) := by decide +kernel
theorem dX3_foresee_55 : decode cX3_foresee 55 = .ok (.getfield 23, 3) := by decide +kernel
theorem dX3_foresee_58 : decode cX3_foresee 58 = .ok (.aload_n 0, 1) := by decide +kernel
theorem dX3_foresee_59 : decode cX3_foresee 59 = .ok (.getfield 10, 3) := by decide +kernel
theorem dX3_foresee_62 : decode cX3_foresee 62 = .ok (.iload_n 1, 1) := by decide +kernel
theorem dX3_foresee_63 : decode cX3_foresee 63 = .ok (.invokevirtual 142, 3) := by decide +kernel
theorem dX3_foresee_66 : decode cX3_foresee 66 = .ok (.aload_n 0, 1) := by decide +kernel
theorem dX3_foresee_67 : decode cX3_foresee 67 = .ok (.aload_n 0, 1) := by decide +kernel
theorem dX3_foresee_68 : decode cX3_foresee 68 = .ok (.getfield 23, 3) := by decide +kernel
theorem dX3_foresee_71 : decode cX3_foresee 71 = .ok (.iload_n 2, 1) := by decide +kernel
theorem dX3_foresee_72 : decode cX3_foresee 72 = .ok (.invokevirtual 124, 3) := by decide +kernel
theorem dX3_foresee_75 : decode cX3_foresee 75 = .ok (.ireturn, 1) := by decide +kernel
set_option maxRecDepth 20000 in
theorem ggX3_advise_X1_has : GoodIn wsX3_advise wsX1_has := goodIn_r _ [10, 11, 104, 105, 106] (by decide +kernel) (by decide +kernel)
set_option maxRecDepth 20000 in
theorem gX3_advise_X1_has : GoodIn wsX3_advise (wsV RX3 83 RX1 yX1_has wsX1_has) := goodIn_app (goodIn_of _ (by decide +kernel)) ggX3_advise_X1_has
set_option maxRecDepth 20000 in
theorem ggX3_advise_X3_placeWith : GoodIn wsX3_advise wsX3_placeWith := goodIn_r _ [16, 17, 18, 5, 19, 20, 21, 22, 23, 24, 25, 26, 27, 28, 29, 30, 31, 32, 33, 34, 35, 36, 37, 38, 39, 40, 41, 42, 43, 44, 45, 46, 47, 48, 49, 50, 51, 52, 53, 54, 55, 56, 57, 58, 59, 60, 61, 62, 63, 64, 65, 66, 67, 68, 69, 70, 71, 72, 73, 74, 75, 76, 77, 78, 79, 80, 81, 82, 83, 84, 85, 86, 87, 88, 89, 90, 91, 92, 93, 94, 95, 96, 97, 98, 99, 100, 101, 102, 103, 104, 105, 106, 107, 108, 109, 110, 111, 112, 113, 114, 115, 116, 117, 118, 119, 120, 121, 122] (by decide +kernel) (by decide +kernel)
set_option maxRecDepth 20000 in
theorem gX3_advise_X3_placeWith : GoodIn wsX3_advise (wsV RX3 163 RX3 yX3_placeWith wsX3_placeWith) := goodIn_app (goodIn_of _ (by decide +kernel)) ggX3_advise_X3_placeWith
theorem dX3_advise_0 : decode cX3_advise 0 = .ok (.aload_n 0, 1) := by decide +kernel
theorem dX3_advise_1 : decode cX3_advise 1 = .ok (.getfield 19, 3) := by decide +kernel
theorem dX3_advise_4 : decode cX3_advise 4 = .ok (.iload_n 1, 1) := by decide +kernel
theorem dX3_advise_5 : decode cX3_advise 5 = .ok (.invokevirtual 83, 3) := by decide +kernel
theorem dX3_advise_8 : decode cX3_advise 8 = .ok (.ifCond .ne 13, 3) := by decide +kernel
theorem dX3_advise_11 : decode cX3_advise 11 = .ok (.new 30, 3) := by decide +kernel
theorem dX3_advise_14 : decode cX3_advise 14 = .ok (.dup, 1) := by decide +kernel
theorem dX3_advise_15 : decode cX3_advise 15 = .ok (.ldc 86, 2) := by decide +kernel
theorem dX3_advise_17 : decode cX3_advise 17 = .ok (.invokespecial 34, 3) := by decide +kernel
theorem dX3_advise_20 : decode cX3_advise 20 = .ok (.athrow, 1) := by decide +kernel
theorem dX3_advise_21 : decode cX3_advise 21 = .ok (.iload_n 2, 1) := by decide +kernel
theorem dX3_advise_22 : decode cX3_advise 22 = .ok (.iconst 1, 1) := by decide +kernel
theorem dX3_advise_23 : decode cX3_advise 23 = .ok (.if_icmp .lt 9, 3) := by decide +kernel
theorem dX3_advise_26 : decode cX3_advise 26 = .ok (.iload_n 2, 1) := by decide +kernel
theorem dX3_advise_27 : decode cX3_advise 27 = .ok (.bipush 60, 2) := by decide +kernel
theorem dX3_advise_29 : decode cX3_advise 29 = .ok (.if_icmp .le 13, 3) := by decide +kernel
theorem dX3_advise_32 : decode cX3_advise 32 = .ok (.new 37, 3) := by decide +kernel
theorem dX3_advise_35 : decode cX3_advise 35 = .ok (.dup, 1) := by decide +kernel
theorem dX3_advise_36 : decode cX3_advise 36 = .ok (.ldc 161, 2) := by decide +kernel
theorem dX3_advise_38 : decode cX3_advise 38 = .ok (.invokespecial 41, 3) := by decide +kernel
theorem dX3_advise_41 : decode cX3_advise 41 = .ok (.athrow, 1) := by decide +kernel
theorem dX3_advise_42 : decode cX3_advise 42 = .ok (.iconst 0, 1) := by decide +kernel
theorem dX3_advise_43 : decode cX3_advise 43 = .ok (.istore_n 3, 1) := by decide +kernel
theorem dX3_advise_44 : decode cX3_advise 44 = .ok (.iconst (-1), 1) := by decide +kernel
theorem dX3_advise_45 : decode cX3_advise 45 = .ok (.istore 4, 2) := by decide +kernel
theorem dX3_advise_47 : decode cX3_advise 47 = .ok (.iconst 0, 1) := by decide +kernel
theorem dX3_advise_48 : decode cX3_advise 48 = .ok (.istore 5, 2) := by decide +kernel
theorem dX3_advise_50 : decode cX3_advise 50 = .ok (.iload 5, 2) := by decide +kernel
theorem dX3_advise_52 : decode cX3_advise 52 = .ok (.iconst 3, 1) := by decide +kernel
theorem dX3_advise_53 : decode cX3_advise 53 = .ok (.if_icmp .gt 58, 3) := by decide +kernel
theorem dX3_advise_56 : decode cX3_advise 56 = .ok (.iconst 0, 1) := by decide +kernel
theorem dX3_advise_57 : decode cX3_advise 57 = .ok (.istore 6, 2) := by decide +kernel
theorem dX3_advise_59 : decode cX3_advise 59 = .ok (.iload 6, 2) := by decide +kernel
theorem dX3_advise_61 : decode cX3_advise 61 = .ok (.iconst 3, 1) := by decide +kernel
theorem dX3_advise_62 : decode cX3_advise 62 = .ok (.if_icmp .gt 43, 3) := by decide +kernel
theorem dX3_advise_65 : decode cX3_advise 65 = .ok (.iload 5, 2) := by decide +kernel
theorem dX3_advise_67 : decode cX3_advise 67 = .ok (.bipush 10, 2) := by decide +kernel
theorem dX3_advise_69 : decode cX3_advise 69 = .ok (.imul, 1) := by decide +kernel
theorem dX3_advise_70 : decode cX3_advise 70 = .ok (.iload 6, 2) := by decide +kernel
theorem dX3_advise_72 : decode cX3_advise 72 = .ok (.iadd, 1) := by decide +kernel
theorem dX3_advise_73 : decode cX3_advise 73 = .ok (.istore 7, 2) := by decide +kernel
theorem dX3_advise_75 : decode cX3_advise 75 = .ok (.aload_n 0, 1) := by decide +kernel
theorem dX3_advise_76 : decode cX3_advise 76 = .ok (.iload_n 1, 1) := by decide +kernel
theorem dX3_advise_77 : decode cX3_advise 77 = .ok (.iload 7, 2) := by decide +kernel
theorem dX3_advise_79 : decode cX3_advise 79 = .ok (.iload_n 2, 1) := by decide +kernel
theorem dX3_advise_80 : decode cX3_advise 80 = .ok (.invokevirtual 163, 3) := by decide +kernel
theorem dX3_advise_83 : decode cX3_advise 83 = .ok (.istore 8, 2) := by decide +kernel
theorem dX3_advise_85 : decode cX3_advise 85 = .ok (.iload 8, 2) := by decide +kernel
theorem dX3_advise_87 : decode cX3_advise 87 = .ok (.iload 4, 2) := by decide +kernel
theorem dX3_advise_89 : decode cX3_advise 89 = .ok (.if_icmp .le 10, 3) := by decide +kernel
theorem dX3_advise_92 : decode cX3_advise 92 = .ok (.iload 8, 2) := by decide +kernel
theorem dX3_advise_94 : decode cX3_advise 94 = .ok (.istore 4, 2) := by decide +kernel
theorem dX3_advise_96 : decode cX3_advise 96 = .ok (.iload 7, 2) := by decide +kernel
theorem dX3_advise_98 : decode cX3_advise 98 = .ok (.istore_n 3, 1) := by decide +kernel
theorem dX3_advise_99 : decode cX3_advise 99 = .ok (.iinc 6 1, 3) := by decide +kernel
theorem dX3_advise_102 : decode cX3_advise 102 = .ok (.goto (-43), 3) := by decide +kernel
theorem dX3_advise_105 : decode cX3_advise 105 = .ok (.iinc 5 1, 3) := by decide +kernel
theorem dX3_advise_108 : decode cX3_advise 108 = .ok (.goto (-58), 3) := by decide +kernel
theorem dX3_advise_111 : decode cX3_advise 111 = .ok (.iload_n 3, 1) := by decide +kernel
theorem dX3_advise_112 : decode cX3_advise 112 = .ok (.ireturn, 1) := by decide +kernel
set_option maxRecDepth 20000 in
theorem ggX3_mean_X1_placesAdded : GoodIn wsX3_mean wsX1_placesAdded := goodIn_r _ [7, 8, 9, 10, 14, 15, 16, 17, 18, 19, 20, 21, 22, 23, 24, 25, 26, 27, 28] (by decide +kernel) (by decide +kernel)
set_option maxRecDepth 20000 in
theorem gX3_mean_X1_placesAdded : GoodIn wsX3_mean (wsV RX3 167 RX1 yX1_placesAdded wsX1_placesAdded) := goodIn_app (goodIn_of _ (by decide +kernel)) ggX3_mean_X1_placesAdded
theorem dX3_mean_0 : decode cX3_mean 0 = .ok (.aload_n 0, 1) := by decide +kernel
theorem dX3_mean_1 : decode cX3_mean 1 = .ok (.getfield 19, 3) := by decide +kernel
theorem dX3_mean_4 : decode cX3_mean 4 = .ok (.getfield 74, 3) := by decide +kernel
theorem dX3_mean_7 : decode cX3_mean 7 = .ok (.iconst 1, 1) := by decide +kernel
theorem dX3_mean_8 : decode cX3_mean 8 = .ok (.if_icmp .ge 5, 3) := by decide +kernel
theorem dX3_mean_11 : decode cX3_mean 11 = .ok (.dconst 0, 1) := by decide +kernel
theorem dX3_mean_12 : decode cX3_mean 12 = .ok (.dreturn, 1) := by decide +kernel
theorem dX3_mean_13 : decode cX3_mean 13 = .ok (.aload_n 0, 1) := by decide +kernel
theorem dX3_mean_14 : decode cX3_mean 14 = .ok (.getfield 19, 3) := by decide +kernel
theorem dX3_mean_17 : decode cX3_mean 17 = .ok (.invokevirtual 167, 3) := by decide +kernel
theorem dX3_mean_20 : decode cX3_mean 20 = .ok (.i2d, 1) := by decide +kernel
theorem dX3_mean_21 : decode cX3_mean 21 = .ok (.aload_n 0, 1) := by decide +kernel
theorem dX3_mean_22 : decode cX3_mean 22 = .ok (.getfield 19, 3) := by decide +kernel
theorem dX3_mean_25 : decode cX3_mean 25 = .ok (.getfield 74, 3) := by decide +kernel
theorem dX3_mean_28 : decode cX3_mean 28 = .ok (.i2d, 1) := by decide +kernel
theorem dX3_mean_29 : decode cX3_mean 29 = .ok (.ddiv, 1) := by decide +kernel
theorem dX3_mean_30 : decode cX3_mean 30 = .ok (.dreturn, 1) := by decide +kernel
set_option maxRecDepth 20000 in
theorem ggX3_digest_X3_countIn : GoodIn wsX3_digest wsX3_countIn := goodIn_r _ [15, 16, 9, 4, 6, 17, 18, 19, 20, 21, 22, 23, 24, 25, 26, 27, 28, 29, 30, 31, 32, 33, 34, 35, 36, 37, 38, 39, 40, 41, 42, 43, 44, 45, 46, 47, 48, 49, 82, 83, 84, 75, 76, 77, 78, 79, 80, 81, 85, 86, 87, 88, 89, 90, 91, 92, 93, 94, 95, 96] (by decide +kernel) (by decide +kernel)
set_option maxRecDepth 20000 in
theorem gX3_digest_X3_countIn : GoodIn wsX3_digest (wsV RX3 124 RX3 yX3_countIn wsX3_countIn) := goodIn_app (goodIn_of _ (by decide +kernel)) ggX3_digest_X3_countIn
set_option maxRecDepth 20000 in
theorem ggX3_digest_X3_digestWith : GoodIn wsX3_digest wsX3_digestWith := goodIn_r _ [53, 2, 54, 55, 3, 56, 57, 58, 27, 59, 60, 61, 62, 63, 49, 29, 64, 65, 66, 45, 46, 47, 48, 67, 68, 69, 20, 70, 22, 23, 71, 72, 73, 74, 85, 86, 87, 88, 89, 90, 91, 92, 93, 94, 95, 96, 75, 76, 77, 82, 83, 84] (by decide +kernel) (by decide +kernel)
set_option maxRecDepth 20000 in
theorem gX3_digest_X3_digestWith : GoodIn wsX3_digest (wsV RX3 180 RX3 yX3_digestWith wsX3_digestWith) := goodIn_app (goodIn_of _ (by decide +kernel)) ggX3_digest_X3_digestWith
theorem dX3_digest_0 : decode cX3_digest 0 = .ok (.ldc2_w 170, 3) := by decide +kernel
theorem dX3_digest_3 : decode cX3_digest 3 = .ok (.lstore_n 1, 1) := by decide +kernel
theorem dX3_digest_4 : decode cX3_digest 4 = .ok (.iconst 0, 1) := by decide +kernel
theorem dX3_digest_5 : decode cX3_digest 5 = .ok (.istore_n 3, 1) := by decide +kernel
theorem dX3_digest_6 : decode cX3_digest 6 = .ok (.iload_n 3, 1) := by decide +kernel
theorem dX3_digest_7 : decode cX3_digest 7 = .ok (.bipush 6, 2) := by decide +kernel
theorem dX3_digest_9 : decode cX3_digest 9 = .ok (.if_icmp .gt 26, 3) := by decide +kernel
theorem dX3_digest_12 : decode cX3_digest 12 = .ok (.lload_n 1, 1) := by decide +kernel
theorem dX3_digest_13 : decode cX3_digest 13 = .ok (.ldc2_w 172, 3) := by decide +kernel
theorem dX3_digest_16 : decode cX3_digest 16 = .ok (.lmul, 1) := by decide +kernel
theorem dX3_digest_17 : decode cX3_digest 17 = .ok (.aload_n 0, 1) := by decide +kernel
theorem dX3_digest_18 : decode cX3_digest 18 = .ok (.aload_n 0, 1) := by decide +kernel
theorem dX3_digest_19 : decode cX3_digest 19 = .ok (.getfield 19, 3) := by decide +kernel
theorem dX3_digest_22 : decode cX3_digest 22 = .ok (.iload_n 3, 1) := by decide +kernel
theorem dX3_digest_23 : decode cX3_digest 23 = .ok (.invokevirtual 124, 3) := by decide +kernel
theorem dX3_digest_26 : decode cX3_digest 26 = .ok (.i2l, 1) := by decide +kernel
theorem dX3_digest_27 : decode cX3_digest 27 = .ok (.ladd, 1) := by decide +kernel
theorem dX3_digest_28 : decode cX3_digest 28 = .ok (.lstore_n 1, 1) := by decide +kernel
theorem dX3_digest_29 : decode cX3_digest 29 = .ok (.iinc 3 1, 3) := by decide +kernel
theorem dX3_digest_32 : decode cX3_digest 32 = .ok (.goto (-26), 3) := by decide +kernel
theorem dX3_digest_35 : decode cX3_digest 35 = .ok (.iconst 0, 1) := by decide +kernel
theorem dX3_digest_36 : decode cX3_digest 36 = .ok (.istore_n 3, 1) := by decide +kernel
theorem dX3_digest_37 : decode cX3_digest 37 = .ok (.iload_n 3, 1) := by decide +kernel
theorem dX3_digest_38 : decode cX3_digest 38 = .ok (.iconst 5, 1) := by decide +kernel
theorem dX3_digest_39 : decode cX3_digest 39 = .ok (.if_icmp .ge 26, 3) := by decide +kernel
theorem dX3_digest_42 : decode cX3_digest 42 = .ok (.lload_n 1, 1) := by decide +kernel
theorem dX3_digest_43 : decode cX3_digest 43 = .ok (.ldc2_w 172, 3) := by decide +kernel
theorem dX3_digest_46 : decode cX3_digest 46 = .ok (.lmul, 1) := by decide +kernel
theorem dX3_digest_47 : decode cX3_digest 47 = .ok (.aload_n 0, 1) := by decide +kernel
theorem dX3_digest_48 : decode cX3_digest 48 = .ok (.getfield 10, 3) := by decide +kernel
theorem dX3_digest_51 : decode cX3_digest 51 = .ok (.getfield 42, 3) := by decide +kernel
theorem dX3_digest_54 : decode cX3_digest 54 = .ok (.iload_n 3, 1) := by decide +kernel
theorem dX3_digest_55 : decode cX3_digest 55 = .ok (.iaload, 1) := by decide +kernel
theorem dX3_digest_56 : decode cX3_digest 56 = .ok (.i2l, 1) := by decide +kernel
theorem dX3_digest_57 : decode cX3_digest 57 = .ok (.ladd, 1) := by decide +kernel
theorem dX3_digest_58 : decode cX3_digest 58 = .ok (.lstore_n 1, 1) := by decide +kernel
theorem dX3_digest_59 : decode cX3_digest 59 = .ok (.iinc 3 1, 3) := by decide +kernel
theorem dX3_digest_62 : decode cX3_digest 62 = .ok (.goto (-25), 3) := by decide +kernel
theorem dX3_digest_65 : decode cX3_digest 65 = .ok (.iconst 0, 1) := by decide +kernel
theorem dX3_digest_66 : decode cX3_digest 66 = .ok (.istore_n 3, 1) := by decide +kernel
theorem dX3_digest_67 : decode cX3_digest 67 = .ok (.iload_n 3, 1) := by decide +kernel
theorem dX3_digest_68 : decode cX3_digest 68 = .ok (.aload_n 0, 1) := by decide +kernel
theorem dX3_digest_69 : decode cX3_digest 69 = .ok (.getfield 10, 3) := by decide +kernel
theorem dX3_digest_72 : decode cX3_digest 72 = .ok (.getfield 50, 3) := by decide +kernel
theorem dX3_digest_75 : decode cX3_digest 75 = .ok (.if_icmp .ge 43, 3) := by decide +kernel
theorem dX3_digest_78 : decode cX3_digest 78 = .ok (.lload_n 1, 1) := by decide +kernel
theorem dX3_digest_79 : decode cX3_digest 79 = .ok (.ldc2_w 172, 3) := by decide +kernel
theorem dX3_digest_82 : decode cX3_digest 82 = .ok (.lmul, 1) := by decide +kernel
theorem dX3_digest_83 : decode cX3_digest 83 = .ok (.aload_n 0, 1) := by decide +kernel
theorem dX3_digest_84 : decode cX3_digest 84 = .ok (.getfield 10, 3) := by decide +kernel
theorem dX3_digest_87 : decode cX3_digest 87 = .ok (.getfield 174, 3) := by decide +kernel
theorem dX3_digest_90 : decode cX3_digest 90 = .ok (.iload_n 3, 1) := by decide +kernel
theorem dX3_digest_91 : decode cX3_digest 91 = .ok (.iaload, 1) := by decide +kernel
theorem dX3_digest_92 : decode cX3_digest 92 = .ok (.i2l, 1) := by decide +kernel
theorem dX3_digest_93 : decode cX3_digest 93 = .ok (.ladd, 1) := by decide +kernel
theorem dX3_digest_94 : decode cX3_digest 94 = .ok (.lstore_n 1, 1) := by decide +kernel
theorem dX3_digest_95 : decode cX3_digest 95 = .ok (.lload_n 1, 1) := by decide +kernel
theorem dX3_digest_96 : decode cX3_digest 96 = .ok (.ldc2_w 172, 3) := by decide +kernel
theorem dX3_digest_99 : decode cX3_digest 99 = .ok (.lmul, 1) := by decide +kernel
theorem dX3_digest_100 : decode cX3_digest 100 = .ok (.aload_n 0, 1) := by decide +kernel
theorem dX3_digest_101 : decode cX3_digest 101 = .ok (.getfield 10, 3) := by decide +kernel
theorem dX3_digest_104 : decode cX3_digest 104 = .ok (.getfield 177, 3) := by decide +kernel
theorem dX3_digest_107 : decode cX3_digest 107 = .ok (.iload_n 3, 1) := by decide +kernel
theorem dX3_digest_108 : decode cX3_digest 108 = .ok (.iaload, 1) := by decide +kernel
theorem dX3_digest_109 : decode cX3_digest 109 = .ok (.i2l, 1) := by decide +kernel
theorem dX3_digest_110 : decode cX3_digest 110 = .ok (.ladd, 1) := by decide +kernel
theorem dX3_digest_111 : decode cX3_digest 111 = .ok (.lstore_n 1, 1) := by decide +kernel
theorem dX3_digest_112 : decode cX3_digest 112 = .ok (.iinc 3 1, 3) := by decide +kernel
theorem dX3_digest_115 : decode cX3_digest 115 = .ok (.goto (-48), 3) := by decide +kernel
theorem dX3_digest_118 : decode cX3_digest 118 = .ok (.iconst 0, 1) := by decide +kernel
theorem dX3_digest_119 : decode cX3_digest 119 = .ok (.istore_n 3, 1) := by decide +kernel
theorem dX3_digest_120 : decode cX3_digest 120 = .ok (.iload_n 3, 1) := by decide +kernel
theorem dX3_digest_121 : decode cX3_digest 121 = .ok (.aload_n 0, 1) := by decide +kernel
theorem dX3_digest_122 : decode cX3_digest 122 = .ok (.getfield 19, 3) := by decide +kernel
theorem dX3_digest_125 : decode cX3_digest 125 = .ok (.getfield 74, 3) := by decide +kernel
theorem dX3_digest_128 : decode cX3_digest 128 = .ok (.if_icmp .ge 24, 3) := by decide +kernel
theorem dX3_digest_131 : decode cX3_digest 131 = .ok (.aload_n 0, 1) := by decide +kernel
theorem dX3_digest_132 : decode cX3_digest 132 = .ok (.lload_n 1, 1) := by decide +kernel
theorem dX3_digest_133 : decode cX3_digest 133 = .ok (.aload_n 0, 1) := by decide +kernel
theorem dX3_digest_134 : decode cX3_digest 134 = .ok (.getfield 19, 3) := by decide +kernel
theorem dX3_digest_137 : decode cX3_digest 137 = .ok (.getfield 96, 3) := by decide +kernel
theorem dX3_digest_140 : decode cX3_digest 140 = .ok (.iload_n 3, 1) := by decide +kernel
theorem dX3_digest_141 : decode cX3_digest 141 = .ok (.aaload, 1) := by decide +kernel
theorem dX3_digest_142 : decode cX3_digest 142 = .ok (.invokevirtual 180, 3) := by decide +kernel
theorem dX3_digest_145 : decode cX3_digest 145 = .ok (.lstore_n 1, 1) := by decide +kernel
theorem dX3_digest_146 : decode cX3_digest 146 = .ok (.iinc 3 1, 3) := by decide +kernel
theorem dX3_digest_149 : decode cX3_digest 149 = .ok (.goto (-29), 3) := by decide +kernel
theorem dX3_digest_152 : decode cX3_digest 152 = .ok (.lload_n 1, 1) := by decide +kernel
theorem dX3_digest_153 : decode cX3_digest 153 = .ok (.lreturn, 1) := by decide +kernel
set_option maxRecDepth 20000 in
theorem ggX3_digestWith_X0_fact : GoodIn wsX3_digestWith wsX0_fact := goodIn_r _ [9, 10, 11, 12, 13, 14, 15, 16, 17, 18, 19, 20, 8, 21, 22, 34, 35, 36, 37, 38, 39, 40, 41, 42, 43, 44, 45] (by decide +kernel) (by decide +kernel)
set_option maxRecDepth 20000 in
theorem gX3_digestWith_X0_fact : GoodIn wsX3_digestWith (wsV RX3 118 RX0 yX0_fact wsX0_fact) := goodIn_app (goodIn_of _ (by decide +kernel)) ggX3_digestWith_X0_fact
set_option maxRecDepth 20000 in
theorem ggX3_digestWith_X1_rankOf : GoodIn wsX3_digestWith wsX1_rankOf := goodIn_r _ [27, 28, 29, 30, 31, 32, 8, 33, 15, 10, 18, 19, 20, 21, 22, 14, 49, 50, 51, 34, 35, 36, 37, 38, 39, 40, 41, 42, 43, 44, 45] (by decide +kernel) (by decide +kernel)
set_option maxRecDepth 20000 in
theorem gX3_digestWith_X1_rankOf : GoodIn wsX3_digestWith (wsV RX3 133 RX1 yX1_rankOf wsX1_rankOf) := goodIn_app (goodIn_of _ (by decide +kernel)) ggX3_digestWith_X1_rankOf
theorem dX3_digestWith_0 : decode cX3_digestWith 0 = .ok (.lload_n 1, 1) := by decide +kernel
theorem dX3_digestWith_1 : decode cX3_digestWith 1 = .ok (.lstore 4, 2) := by decide +kernel
theorem dX3_digestWith_3 : decode cX3_digestWith 3 = .ok (.iconst 0, 1) := by decide +kernel
theorem dX3_digestWith_4 : decode cX3_digestWith 4 = .ok (.istore 6, 2) := by decide +kernel
theorem dX3_digestWith_6 : decode cX3_digestWith 6 = .ok (.iload 6, 2) := by decide +kernel
theorem dX3_digestWith_8 : decode cX3_digestWith 8 = .ok (.bipush 8, 2) := by decide +kernel
theorem dX3_digestWith_10 : decode cX3_digestWith 10 = .ok (.if_icmp .gt 25, 3) := by decide +kernel
theorem dX3_digestWith_13 : decode cX3_digestWith 13 = .ok (.lload 4, 2) := by decide +kernel
theorem dX3_digestWith_15 : decode cX3_digestWith 15 = .ok (.ldc2_w 172, 3) := by decide +kernel
theorem dX3_digestWith_18 : decode cX3_digestWith 18 = .ok (.lmul, 1) := by decide +kernel
theorem dX3_digestWith_19 : decode cX3_digestWith 19 = .ok (.aload_n 3, 1) := by decide +kernel
theorem dX3_digestWith_20 : decode cX3_digestWith 20 = .ok (.iload 6, 2) := by decide +kernel
theorem dX3_digestWith_22 : decode cX3_digestWith 22 = .ok (.invokevirtual 118, 3) := by decide +kernel
theorem dX3_digestWith_25 : decode cX3_digestWith 25 = .ok (.i2l, 1) := by decide +kernel
theorem dX3_digestWith_26 : decode cX3_digestWith 26 = .ok (.ladd, 1) := by decide +kernel
theorem dX3_digestWith_27 : decode cX3_digestWith 27 = .ok (.lstore 4, 2) := by decide +kernel
theorem dX3_digestWith_29 : decode cX3_digestWith 29 = .ok (.iinc 6 1, 3) := by decide +kernel
theorem dX3_digestWith_32 : decode cX3_digestWith 32 = .ok (.goto (-26), 3) := by decide +kernel
theorem dX3_digestWith_35 : decode cX3_digestWith 35 = .ok (.iconst 0, 1) := by decide +kernel
theorem dX3_digestWith_36 : decode cX3_digestWith 36 = .ok (.istore 6, 2) := by decide +kernel
theorem dX3_digestWith_38 : decode cX3_digestWith 38 = .ok (.iload 6, 2) := by decide +kernel
theorem dX3_digestWith_40 : decode cX3_digestWith 40 = .ok (.aload_n 3, 1) := by decide +kernel
theorem dX3_digestWith_41 : decode cX3_digestWith 41 = .ok (.getfield 100, 3) := by decide +kernel
theorem dX3_digestWith_44 : decode cX3_digestWith 44 = .ok (.if_icmp .ge 26, 3) := by decide +kernel
theorem dX3_digestWith_47 : decode cX3_digestWith 47 = .ok (.lload 4, 2) := by decide +kernel
theorem dX3_digestWith_49 : decode cX3_digestWith 49 = .ok (.ldc2_w 172, 3) := by decide +kernel
theorem dX3_digestWith_52 : decode cX3_digestWith 52 = .ok (.lmul, 1) := by decide +kernel
theorem dX3_digestWith_53 : decode cX3_digestWith 53 = .ok (.aload_n 3, 1) := by decide +kernel
theorem dX3_digestWith_54 : decode cX3_digestWith 54 = .ok (.getfield 184, 3) := by decide +kernel
theorem dX3_digestWith_57 : decode cX3_digestWith 57 = .ok (.iload 6, 2) := by decide +kernel
theorem dX3_digestWith_59 : decode cX3_digestWith 59 = .ok (.iaload, 1) := by decide +kernel
theorem dX3_digestWith_60 : decode cX3_digestWith 60 = .ok (.i2l, 1) := by decide +kernel
theorem dX3_digestWith_61 : decode cX3_digestWith 61 = .ok (.ladd, 1) := by decide +kernel
theorem dX3_digestWith_62 : decode cX3_digestWith 62 = .ok (.lstore 4, 2) := by decide +kernel
theorem dX3_digestWith_64 : decode cX3_digestWith 64 = .ok (.iinc 6 1, 3) := by decide +kernel
theorem dX3_digestWith_67 : decode cX3_digestWith 67 = .ok (.goto (-29), 3) := by decide +kernel
theorem dX3_digestWith_70 : decode cX3_digestWith 70 = .ok (.lload 4, 2) := by decide +kernel
theorem dX3_digestWith_72 : decode cX3_digestWith 72 = .ok (.ldc2_w 172, 3) := by decide +kernel
theorem dX3_digestWith_75 : decode cX3_digestWith 75 = .ok (.lmul, 1) := by decide +kernel
theorem dX3_digestWith_76 : decode cX3_digestWith 76 = .ok (.aload_n 0, 1) := by decide +kernel
theorem dX3_digestWith_77 : decode cX3_digestWith 77 = .ok (.getfield 19, 3) := by decide +kernel
theorem dX3_digestWith_80 : decode cX3_digestWith 80 = .ok (.aload_n 3, 1) := by decide +kernel
theorem dX3_digestWith_81 : decode cX3_digestWith 81 = .ok (.invokevirtual 133, 3) := by decide +kernel
theorem dX3_digestWith_84 : decode cX3_digestWith 84 = .ok (.i2l, 1) := by decide +kernel
theorem dX3_digestWith_85 : decode cX3_digestWith 85 = .ok (.ladd, 1) := by decide +kernel
theorem dX3_digestWith_86 : decode cX3_digestWith 86 = .ok (.lreturn, 1) := by decide +kernel
set_option maxRecDepth 20000 in
theorem ggX3_countIn_X1_boatsIn : GoodIn wsX3_countIn wsX1_boatsIn := goodIn_r _ [9, 10, 11, 12, 13, 14, 15, 16, 17, 38, 39, 40, 48, 49, 50, 51, 52, 53, 54, 55, 56, 57, 58, 59] (by decide +kernel) (by decide +kernel)
set_option maxRecDepth 20000 in
theorem gX3_countIn_X1_boatsIn : GoodIn wsX3_countIn (wsV RX3 139 RX1 yX1_boatsIn wsX1_boatsIn) := goodIn_app (goodIn_of _ (by decide +kernel)) ggX3_countIn_X1_boatsIn
set_option maxRecDepth 20000 in
theorem ggX3_countIn_X1_foulsAdded : GoodIn wsX3_countIn wsX1_foulsAdded := goodIn_r _ [21, 10, 11, 22, 38, 39, 40, 48, 49, 50, 51, 52, 53, 54, 55, 56, 57, 58, 59] (by decide +kernel) (by decide +kernel)
set_option maxRecDepth 20000 in
theorem gX3_countIn_X1_foulsAdded : GoodIn wsX3_countIn (wsV RX3 187 RX1 yX1_foulsAdded wsX1_foulsAdded) := goodIn_app (goodIn_of _ (by decide +kernel)) ggX3_countIn_X1_foulsAdded
set_option maxRecDepth 20000 in
theorem ggX3_countIn_X1_leader : GoodIn wsX3_countIn wsX1_leader := goodIn_r _ [26, 10, 11, 27, 12, 13, 14, 15, 16, 17, 38, 39, 40, 48, 49, 50, 51, 52, 53, 54, 55, 56, 57, 58, 59] (by decide +kernel) (by decide +kernel)
set_option maxRecDepth 20000 in
theorem gX3_countIn_X1_leader : GoodIn wsX3_countIn (wsV RX3 190 RX1 yX1_leader wsX1_leader) := goodIn_app (goodIn_of _ (by decide +kernel)) ggX3_countIn_X1_leader
set_option maxRecDepth 20000 in
theorem ggX3_countIn_X1_winner : GoodIn wsX3_countIn wsX1_winner := goodIn_r _ [31, 10, 11, 12, 13, 14, 15, 16, 17, 32, 33, 34, 35, 36, 37, 38, 39, 40, 48, 49, 50, 51, 52, 53, 54, 55, 56, 57, 58, 59] (by decide +kernel) (by decide +kernel)
set_option maxRecDepth 20000 in
theorem gX3_countIn_X1_winner : GoodIn wsX3_countIn (wsV RX3 193 RX1 yX1_winner wsX1_winner) := goodIn_app (goodIn_of _ (by decide +kernel)) ggX3_countIn_X1_winner
theorem dX3_countIn_0 : decode cX3_countIn 0 = .ok (.iload_n 2, 1) := by decide +kernel
theorem dX3_countIn_1 : decode cX3_countIn 1 = .ok (.tableswitch 72 0 5 #[39, 44, 49, 57, 62, 67], 39) := by decide +kernel
theorem dX3_countIn_40 : decode cX3_countIn 40 = .ok (.aload_n 1, 1) := by decide +kernel
theorem dX3_countIn_41 : decode cX3_countIn 41 = .ok (.getfield 150, 3) := by decide +kernel
theorem dX3_countIn_44 : decode cX3_countIn 44 = .ok (.ireturn, 1) := by decide +kernel
theorem dX3_countIn_45 : decode cX3_countIn 45 = .ok (.aload_n 1, 1) := by decide +kernel
theorem dX3_countIn_46 : decode cX3_countIn 46 = .ok (.getfield 74, 3) := by decide +kernel
theorem dX3_countIn_49 : decode cX3_countIn 49 = .ok (.ireturn, 1) := by decide +kernel
theorem dX3_countIn_50 : decode cX3_countIn 50 = .ok (.aload_n 0, 1) := by decide +kernel
theorem dX3_countIn_51 : decode cX3_countIn 51 = .ok (.getfield 10, 3) := by decide +kernel
theorem dX3_countIn_54 : decode cX3_countIn 54 = .ok (.getfield 50, 3) := by decide +kernel
theorem dX3_countIn_57 : decode cX3_countIn 57 = .ok (.ireturn, 1) := by decide +kernel
theorem dX3_countIn_58 : decode cX3_countIn 58 = .ok (.aload_n 1, 1) := by decide +kernel
theorem dX3_countIn_59 : decode cX3_countIn 59 = .ok (.invokevirtual 139, 3) := by decide +kernel
theorem dX3_countIn_62 : decode cX3_countIn 62 = .ok (.ireturn, 1) := by decide +kernel
theorem dX3_countIn_63 : decode cX3_countIn 63 = .ok (.aload_n 1, 1) := by decide +kernel
theorem dX3_countIn_64 : decode cX3_countIn 64 = .ok (.invokevirtual 187, 3) := by decide +kernel
theorem dX3_countIn_67 : decode cX3_countIn 67 = .ok (.ireturn, 1) := by decide +kernel
theorem dX3_countIn_68 : decode cX3_countIn 68 = .ok (.aload_n 1, 1) := by decide +kernel
theorem dX3_countIn_69 : decode cX3_countIn 69 = .ok (.invokevirtual 190, 3) := by decide +kernel
theorem dX3_countIn_72 : decode cX3_countIn 72 = .ok (.ireturn, 1) := by decide +kernel
theorem dX3_countIn_73 : decode cX3_countIn 73 = .ok (.aload_n 1, 1) := by decide +kernel
theorem dX3_countIn_74 : decode cX3_countIn 74 = .ok (.invokevirtual 193, 3) := by decide +kernel
theorem dX3_countIn_77 : decode cX3_countIn 77 = .ok (.ireturn, 1) := by decide +kernel
set_option maxRecDepth 20000 in
theorem ggX3_placeWith_X0_copyFrom : GoodIn wsX3_placeWith wsX0_copyFrom := goodIn_r _ [11, 12, 13, 14, 15, 16, 17, 18, 19, 20, 21, 22, 23, 24, 25, 26, 27, 92, 93, 94, 95, 96, 97, 98, 99, 100, 101, 102, 103] (by decide +kernel) (by decide +kernel)
set_option maxRecDepth 20000 in
theorem gX3_placeWith_X0_copyFrom : GoodIn wsX3_placeWith (wsV RX3 146 RX0 yX0_copyFrom wsX0_copyFrom) := goodIn_app (goodIn_of _ (by decide +kernel)) ggX3_placeWith_X0_copyFrom
set_option maxRecDepth 20000 in
theorem ggX3_placeWith_X0_takePattern : GoodIn wsX3_placeWith wsX0_takePattern := goodIn_r _ [31, 12, 17, 92, 93, 94, 95, 96, 97, 98, 99, 100, 101, 102, 103] (by decide +kernel) (by decide +kernel)
set_option maxRecDepth 20000 in
theorem gX3_placeWith_X0_takePattern : GoodIn wsX3_placeWith (wsV RX3 103 RX0 yX0_takePattern wsX0_takePattern) := goodIn_app (goodIn_of _ (by decide +kernel)) ggX3_placeWith_X0_takePattern
set_option maxRecDepth 20000 in
theorem ggX3_placeWith_X0_letTickGoBy : GoodIn wsX3_placeWith wsX0_letTickGoBy := goodIn_r _ [35, 24, 19, 25, 36, 37, 38, 10, 39, 17, 12, 40, 41, 42, 43, 44, 45, 46, 47, 21, 26, 22, 48, 49, 50, 51, 52, 53, 54, 55, 18, 56, 57, 58, 59, 20, 23, 60, 61, 62, 63, 64, 65, 66, 67, 68, 69, 70, 71, 72, 73, 74, 27, 75, 76, 77, 78, 79, 80, 81, 82, 83, 84, 85, 92, 93, 94, 95, 96, 97, 98, 99, 100, 101, 102, 103, 104, 105, 106, 107] (by decide +kernel) (by decide +kernel)
set_option maxRecDepth 20000 in
theorem gX3_placeWith_X0_letTickGoBy : GoodIn wsX3_placeWith (wsV RX3 153 RX0 yX0_letTickGoBy wsX0_letTickGoBy) := goodIn_app (goodIn_of _ (by decide +kernel)) ggX3_placeWith_X0_letTickGoBy
theorem dX3_placeWith_0 : decode cX3_placeWith 0 = .ok (.aload_n 0, 1) := by decide +kernel
theorem dX3_placeWith_1 : decode cX3_placeWith 1 = .ok (.getfield 23, 3) := by decide +kernel
theorem dX3_placeWith_4 : decode cX3_placeWith 4 = .ok (.getfield 96, 3) := by decide +kernel
theorem dX3_placeWith_7 : decode cX3_placeWith 7 = .ok (.iload_n 1, 1) := by decide +kernel
theorem dX3_placeWith_8 : decode cX3_placeWith 8 = .ok (.aaload, 1) := by decide +kernel
theorem dX3_placeWith_9 : decode cX3_placeWith 9 = .ok (.astore 4, 2) := by decide +kernel
theorem dX3_placeWith_11 : decode cX3_placeWith 11 = .ok (.aload 4, 2) := by decide +kernel
theorem dX3_placeWith_13 : decode cX3_placeWith 13 = .ok (.aload_n 0, 1) := by decide +kernel
theorem dX3_placeWith_14 : decode cX3_placeWith 14 = .ok (.getfield 19, 3) := by decide +kernel
theorem dX3_placeWith_17 : decode cX3_placeWith 17 = .ok (.getfield 96, 3) := by decide +kernel
theorem dX3_placeWith_20 : decode cX3_placeWith 20 = .ok (.iload_n 1, 1) := by decide +kernel
theorem dX3_placeWith_21 : decode cX3_placeWith 21 = .ok (.aaload, 1) := by decide +kernel
theorem dX3_placeWith_22 : decode cX3_placeWith 22 = .ok (.invokevirtual 146, 3) := by decide +kernel
theorem dX3_placeWith_25 : decode cX3_placeWith 25 = .ok (.aload 4, 2) := by decide +kernel
theorem dX3_placeWith_27 : decode cX3_placeWith 27 = .ok (.iconst 2, 1) := by decide +kernel
theorem dX3_placeWith_28 : decode cX3_placeWith 28 = .ok (.iload_n 2, 1) := by decide +kernel
theorem dX3_placeWith_29 : decode cX3_placeWith 29 = .ok (.invokevirtual 103, 3) := by decide +kernel
theorem dX3_placeWith_32 : decode cX3_placeWith 32 = .ok (.iconst 0, 1) := by decide +kernel
theorem dX3_placeWith_33 : decode cX3_placeWith 33 = .ok (.istore 5, 2) := by decide +kernel
theorem dX3_placeWith_35 : decode cX3_placeWith 35 = .ok (.iload 5, 2) := by decide +kernel
theorem dX3_placeWith_37 : decode cX3_placeWith 37 = .ok (.iload_n 3, 1) := by decide +kernel
theorem dX3_placeWith_38 : decode cX3_placeWith 38 = .ok (.if_icmp .ge 28, 3) := by decide +kernel
theorem dX3_placeWith_41 : decode cX3_placeWith 41 = .ok (.aload 4, 2) := by decide +kernel
theorem dX3_placeWith_43 : decode cX3_placeWith 43 = .ok (.aload_n 0, 1) := by decide +kernel
theorem dX3_placeWith_44 : decode cX3_placeWith 44 = .ok (.getfield 10, 3) := by decide +kernel
theorem dX3_placeWith_47 : decode cX3_placeWith 47 = .ok (.aload_n 0, 1) := by decide +kernel
theorem dX3_placeWith_48 : decode cX3_placeWith 48 = .ok (.getfield 19, 3) := by decide +kernel
theorem dX3_placeWith_51 : decode cX3_placeWith 51 = .ok (.getfield 150, 3) := by decide +kernel
theorem dX3_placeWith_54 : decode cX3_placeWith 54 = .ok (.iload 5, 2) := by decide +kernel
theorem dX3_placeWith_56 : decode cX3_placeWith 56 = .ok (.iadd, 1) := by decide +kernel
theorem dX3_placeWith_57 : decode cX3_placeWith 57 = .ok (.invokevirtual 153, 3) := by decide +kernel
theorem dX3_placeWith_60 : decode cX3_placeWith 60 = .ok (.iinc 5 1, 3) := by decide +kernel
theorem dX3_placeWith_63 : decode cX3_placeWith 63 = .ok (.goto (-28), 3) := by decide +kernel
theorem dX3_placeWith_66 : decode cX3_placeWith 66 = .ok (.aload 4, 2) := by decide +kernel
theorem dX3_placeWith_68 : decode cX3_placeWith 68 = .ok (.getfield 196, 3) := by decide +kernel
theorem dX3_placeWith_71 : decode cX3_placeWith 71 = .ok (.ireturn, 1) := by decide +kernel
theorem dX3_isPattern_0 : decode cX3_isPattern 0 = .ok (.iload_n 1, 1) := by decide +kernel
theorem dX3_isPattern_1 : decode cX3_isPattern 1 = .ok (.ifCond .ge 5, 3) := by decide +kernel
theorem dX3_isPattern_4 : decode cX3_isPattern 4 = .ok (.iconst 0, 1) := by decide +kernel
theorem dX3_isPattern_5 : decode cX3_isPattern 5 = .ok (.ireturn, 1) := by decide +kernel
theorem dX3_isPattern_6 : decode cX3_isPattern 6 = .ok (.iload_n 1, 1) := by decide +kernel
theorem dX3_isPattern_7 : decode cX3_isPattern 7 = .ok (.istore_n 2, 1) := by decide +kernel
theorem dX3_isPattern_8 : decode cX3_isPattern 8 = .ok (.iconst 0, 1) := by decide +kernel
theorem dX3_isPattern_9 : decode cX3_isPattern 9 = .ok (.istore_n 3, 1) := by decide +kernel
theorem dX3_isPattern_10 : decode cX3_isPattern 10 = .ok (.iload_n 3, 1) := by decide +kernel
theorem dX3_isPattern_11 : decode cX3_isPattern 11 = .ok (.iload_n 0, 1) := by decide +kernel
theorem dX3_isPattern_12 : decode cX3_isPattern 12 = .ok (.if_icmp .ge 24, 3) := by decide +kernel
theorem dX3_isPattern_15 : decode cX3_isPattern 15 = .ok (.iload_n 2, 1) := by decide +kernel
theorem dX3_isPattern_16 : decode cX3_isPattern 16 = .ok (.bipush 10, 2) := by decide +kernel
theorem dX3_isPattern_18 : decode cX3_isPattern 18 = .ok (.irem, 1) := by decide +kernel
theorem dX3_isPattern_19 : decode cX3_isPattern 19 = .ok (.iconst 3, 1) := by decide +kernel
theorem dX3_isPattern_20 : decode cX3_isPattern 20 = .ok (.if_icmp .le 5, 3) := by decide +kernel
theorem dX3_isPattern_23 : decode cX3_isPattern 23 = .ok (.iconst 0, 1) := by decide +kernel
theorem dX3_isPattern_24 : decode cX3_isPattern 24 = .ok (.ireturn, 1) := by decide +kernel
theorem dX3_isPattern_25 : decode cX3_isPattern 25 = .ok (.iload_n 2, 1) := by decide +kernel
theorem dX3_isPattern_26 : decode cX3_isPattern 26 = .ok (.bipush 10, 2) := by decide +kernel
theorem dX3_isPattern_28 : decode cX3_isPattern 28 = .ok (.idiv, 1) := by decide +kernel
theorem dX3_isPattern_29 : decode cX3_isPattern 29 = .ok (.istore_n 2, 1) := by decide +kernel
theorem dX3_isPattern_30 : decode cX3_isPattern 30 = .ok (.iinc 3 1, 3) := by decide +kernel
theorem dX3_isPattern_33 : decode cX3_isPattern 33 = .ok (.goto (-23), 3) := by decide +kernel
theorem dX3_isPattern_36 : decode cX3_isPattern 36 = .ok (.iload_n 2, 1) := by decide +kernel
theorem dX3_isPattern_37 : decode cX3_isPattern 37 = .ok (.ifCond .ne 7, 3) := by decide +kernel
theorem dX3_isPattern_40 : decode cX3_isPattern 40 = .ok (.iconst 1, 1) := by decide +kernel
theorem dX3_isPattern_41 : decode cX3_isPattern 41 = .ok (.goto 4, 3) := by decide +kernel
theorem dX3_isPattern_44 : decode cX3_isPattern 44 = .ok (.iconst 0, 1) := by decide +kernel
theorem dX3_isPattern_45 : decode cX3_isPattern 45 = .ok (.ireturn, 1) := by decide +kernel
end
section
theorem dX4_init_0 : decode cX4_init 0 = .ok (.aload_n 0, 1) := by decide +kernel
theorem dX4_init_1 : decode cX4_init 1 = .ok (.aload_n 1, 1) := by decide +kernel
theorem dX4_init_2 : decode cX4_init 2 = .ok (.putfield 3, 3) := by decide +kernel
theorem dX4_init_5 : decode cX4_init 5 = .ok (.aload_n 0, 1) := by decide +kernel
theorem dX4_init_6 : decode cX4_init 6 = .ok (.invokespecial 9, 3) := by decide +kernel
theorem dX4_init_9 : decode cX4_init 9 = .ok (.aload_n 0, 1) := by decide +kernel
theorem dX4_init_10 : decode cX4_init 10 = .ok (.bipush 6, 2) := by decide +kernel
theorem dX4_init_12 : decode cX4_init 12 = .ok (.newarray .int, 2) := by decide +kernel
theorem dX4_init_14 : decode cX4_init 14 = .ok (.putfield 15, 3) := by decide +kernel
theorem dX4_init_17 : decode cX4_init 17 = .ok (.aload_n 0, 1) := by decide +kernel
theorem dX4_init_18 : decode cX4_init 18 = .ok (.bipush 6, 2) := by decide +kernel
theorem dX4_init_20 : decode cX4_init 20 = .ok (.newarray .int, 2) := by decide +kernel
theorem dX4_init_22 : decode cX4_init 22 = .ok (.putfield 19, 3) := by decide +kernel
theorem dX4_init_25 : decode cX4_init 25 = .ok (.aload_n 0, 1) := by decide +kernel
theorem dX4_init_26 : decode cX4_init 26 = .ok (.bipush 6, 2) := by decide +kernel
theorem dX4_init_28 : decode cX4_init 28 = .ok (.newarray .int, 2) := by decide +kernel
theorem dX4_init_30 : decode cX4_init 30 = .ok (.putfield 22, 3) := by decide +kernel
theorem dX4_init_33 : decode cX4_init 33 = .ok (.aload_n 0, 1) := by decide +kernel
theorem dX4_init_34 : decode cX4_init 34 = .ok (.bipush 6, 2) := by decide +kernel
theorem dX4_init_36 : decode cX4_init 36 = .ok (.newarray .int, 2) := by decide +kernel
theorem dX4_init_38 : decode cX4_init 38 = .ok (.putfield 25, 3) := by decide +kernel
theorem dX4_init_41 : decode cX4_init 41 = .ok (.aload_n 0, 1) := by decide +kernel
theorem dX4_init_42 : decode cX4_init 42 = .ok (.bipush 6, 2) := by decide +kernel
theorem dX4_init_44 : decode cX4_init 44 = .ok (.newarray .int, 2) := by decide +kernel
theorem dX4_init_46 : decode cX4_init 46 = .ok (.putfield 28, 3) := by decide +kernel
theorem dX4_init_49 : decode cX4_init 49 = .ok (.aload_n 0, 1) := by decide +kernel
theorem dX4_init_50 : decode cX4_init 50 = .ok (.bipush 6, 2) := by decide +kernel
theorem dX4_init_52 : decode cX4_init 52 = .ok (.newarray .int, 2) := by decide +kernel
theorem dX4_init_54 : decode cX4_init 54 = .ok (.putfield 31, 3) := by decide +kernel
theorem dX4_init_57 : decode cX4_init 57 = .ok (.aload_n 0, 1) := by decide +kernel
theorem dX4_init_58 : decode cX4_init 58 = .ok (.bipush 6, 2) := by decide +kernel
theorem dX4_init_60 : decode cX4_init 60 = .ok (.newarray .int, 2) := by decide +kernel
theorem dX4_init_62 : decode cX4_init 62 = .ok (.putfield 34, 3) := by decide +kernel
theorem dX4_init_65 : decode cX4_init 65 = .ok (.aload_n 0, 1) := by decide +kernel
theorem dX4_init_66 : decode cX4_init 66 = .ok (.bipush 6, 2) := by decide +kernel
theorem dX4_init_68 : decode cX4_init 68 = .ok (.newarray .int, 2) := by decide +kernel
theorem dX4_init_70 : decode cX4_init 70 = .ok (.putfield 37, 3) := by decide +kernel
theorem dX4_init_73 : decode cX4_init 73 = .ok (.aload_n 0, 1) := by decide +kernel
theorem dX4_init_74 : decode cX4_init 74 = .ok (.bipush 6, 2) := by decide +kernel
theorem dX4_init_76 : decode cX4_init 76 = .ok (.newarray .int, 2) := by decide +kernel
theorem dX4_init_78 : decode cX4_init 78 = .ok (.putfield 40, 3) := by decide +kernel
theorem dX4_init_81 : decode cX4_init 81 = .ok (.aload_n 0, 1) := by decide +kernel
theorem dX4_init_82 : decode cX4_init 82 = .ok (.bipush 6, 2) := by decide +kernel
theorem dX4_init_84 : decode cX4_init 84 = .ok (.newarray .int, 2) := by decide +kernel
theorem dX4_init_86 : decode cX4_init 86 = .ok (.putfield 43, 3) := by decide +kernel
theorem dX4_init_89 : decode cX4_init 89 = .ok (.return_, 1) := by decide +kernel
theorem dX4_copy_0 : decode cX4_copy 0 = .ok (.aload_n 1, 1) := by decide +kernel
theorem dX4_copy_1 : decode cX4_copy 1 = .ok (.iconst 0, 1) := by decide +kernel
theorem dX4_copy_2 : decode cX4_copy 2 = .ok (.aload_n 2, 1) := by decide +kernel
theorem dX4_copy_3 : decode cX4_copy 3 = .ok (.iconst 0, 1) := by decide +kernel
theorem dX4_copy_4 : decode cX4_copy 4 = .ok (.aload_n 1, 1) := by decide +kernel
theorem dX4_copy_5 : decode cX4_copy 5 = .ok (.arraylength, 1) := by decide +kernel
theorem dX4_copy_6 : decode cX4_copy 6 = .ok (.invokestatic 46, 3) := by decide +kernel
theorem dX4_copy_9 : decode cX4_copy 9 = .ok (.return_, 1) := by decide +kernel
set_option maxRecDepth 20000 in
theorem ggX4_become_X4_copy : GoodIn wsX4_become wsX4_copy := goodIn_r _ [16, 17, 18, 19, 20] (by decide +kernel) (by decide +kernel)
set_option maxRecDepth 20000 in
theorem gX4_become_X4_copy : GoodIn wsX4_become (wsV RX4 56 RX4 yX4_copy wsX4_copy) := goodIn_app (goodIn_of _ (by decide +kernel)) ggX4_become_X4_copy
theorem dX4_become_0 : decode cX4_become 0 = .ok (.aload_n 0, 1) := by decide +kernel
theorem dX4_become_1 : decode cX4_become 1 = .ok (.aload_n 1, 1) := by decide +kernel
theorem dX4_become_2 : decode cX4_become 2 = .ok (.getfield 52, 3) := by decide +kernel
theorem dX4_become_5 : decode cX4_become 5 = .ok (.putfield 52, 3) := by decide +kernel
theorem dX4_become_8 : decode cX4_become 8 = .ok (.aload_n 0, 1) := by decide +kernel
theorem dX4_become_9 : decode cX4_become 9 = .ok (.aload_n 1, 1) := by decide +kernel
theorem dX4_become_10 : decode cX4_become 10 = .ok (.getfield 15, 3) := by decide +kernel
theorem dX4_become_13 : decode cX4_become 13 = .ok (.aload_n 0, 1) := by decide +kernel
theorem dX4_become_14 : decode cX4_become 14 = .ok (.getfield 15, 3) := by decide +kernel
theorem dX4_become_17 : decode cX4_become 17 = .ok (.invokevirtual 56, 3) := by decide +kernel
theorem dX4_become_20 : decode cX4_become 20 = .ok (.aload_n 0, 1) := by decide +kernel
theorem dX4_become_21 : decode cX4_become 21 = .ok (.aload_n 1, 1) := by decide +kernel
theorem dX4_become_22 : decode cX4_become 22 = .ok (.getfield 19, 3) := by decide +kernel
theorem dX4_become_25 : decode cX4_become 25 = .ok (.aload_n 0, 1) := by decide +kernel
theorem dX4_become_26 : decode cX4_become 26 = .ok (.getfield 19, 3) := by decide +kernel
theorem dX4_become_29 : decode cX4_become 29 = .ok (.invokevirtual 56, 3) := by decide +kernel
theorem dX4_become_32 : decode cX4_become 32 = .ok (.aload_n 0, 1) := by decide +kernel
theorem dX4_become_33 : decode cX4_become 33 = .ok (.aload_n 1, 1) := by decide +kernel
theorem dX4_become_34 : decode cX4_become 34 = .ok (.getfield 22, 3) := by decide +kernel
theorem dX4_become_37 : decode cX4_become 37 = .ok (.aload_n 0, 1) := by decide +kernel
theorem dX4_become_38 : decode cX4_become 38 = .ok (.getfield 22, 3) := by decide +kernel
theorem dX4_become_41 : decode cX4_become 41 = .ok (.invokevirtual 56, 3) := by decide +kernel
theorem dX4_become_44 : decode cX4_become 44 = .ok (.aload_n 0, 1) := by decide +kernel
theorem dX4_become_45 : decode cX4_become 45 = .ok (.aload_n 1, 1) := by decide +kernel
theorem dX4_become_46 : decode cX4_become 46 = .ok (.getfield 25, 3) := by decide +kernel
theorem dX4_become_49 : decode cX4_become 49 = .ok (.aload_n 0, 1) := by decide +kernel
theorem dX4_become_50 : decode cX4_become 50 = .ok (.getfield 25, 3) := by decide +kernel
theorem dX4_become_53 : decode cX4_become 53 = .ok (.invokevirtual 56, 3) := by decide +kernel
theorem dX4_become_56 : decode cX4_become 56 = .ok (.aload_n 0, 1) := by decide +kernel
theorem dX4_become_57 : decode cX4_become 57 = .ok (.aload_n 1, 1) := by decide +kernel
theorem dX4_become_58 : decode cX4_become 58 = .ok (.getfield 28, 3) := by decide +kernel
theorem dX4_become_61 : decode cX4_become 61 = .ok (.aload_n 0, 1) := by decide +kernel
theorem dX4_become_62 : decode cX4_become 62 = .ok (.getfield 28, 3) := by decide +kernel
theorem dX4_become_65 : decode cX4_become 65 = .ok (.invokevirtual 56, 3) := by decide +kernel
theorem dX4_become_68 : decode cX4_become 68 = .ok (.aload_n 0, 1) := by decide +kernel
theorem dX4_become_69 : decode cX4_become 69 = .ok (.aload_n 1, 1) := by decide +kernel
theorem dX4_become_70 : decode cX4_become 70 = .ok (.getfield 31, 3) := by decide +kernel
theorem dX4_become_73 : decode cX4_become 73 = .ok (.aload_n 0, 1) := by decide +kernel
theorem dX4_become_74 : decode cX4_become 74 = .ok (.getfield 31, 3) := by decide +kernel
theorem dX4_become_77 : decode cX4_become 77 = .ok (.invokevirtual 56, 3) := by decide +kernel
theorem dX4_become_80 : decode cX4_become 80 = .ok (.aload_n 0, 1) := by decide +kernel
theorem dX4_become_81 : decode cX4_become 81 = .ok (.aload_n 1, 1) := by decide +kernel
theorem dX4_become_82 : decode cX4_become 82 = .ok (.getfield 34, 3) := by decide +kernel
theorem dX4_become_85 : decode cX4_become 85 = .ok (.aload_n 0, 1) := by decide +kernel
theorem dX4_become_86 : decode cX4_become 86 = .ok (.getfield 34, 3) := by decide +kernel
theorem dX4_become_89 : decode cX4_become 89 = .ok (.invokevirtual 56, 3) := by decide +kernel
theorem dX4_become_92 : decode cX4_become 92 = .ok (.aload_n 0, 1) := by decide +kernel
theorem dX4_become_93 : decode cX4_become 93 = .ok (.aload_n 1, 1) := by decide +kernel
theorem dX4_become_94 : decode cX4_become 94 = .ok (.getfield 37, 3) := by decide +kernel
theorem dX4_become_97 : decode cX4_become 97 = .ok (.aload_n 0, 1) := by decide +kernel
theorem dX4_become_98 : decode cX4_become 98 = .ok (.getfield 37, 3) := by decide +kernel
theorem dX4_become_101 : decode cX4_become 101 = .ok (.invokevirtual 56, 3) := by decide +kernel
theorem dX4_become_104 : decode cX4_become 104 = .ok (.aload_n 0, 1) := by decide +kernel
theorem dX4_become_105 : decode cX4_become 105 = .ok (.aload_n 1, 1) := by decide +kernel
theorem dX4_become_106 : decode cX4_become 106 = .ok (.getfield 40, 3) := by decide +kernel
theorem dX4_become_109 : decode cX4_become 109 = .ok (.aload_n 0, 1) := by decide +kernel
theorem dX4_become_110 : decode cX4_become 110 = .ok (.getfield 40, 3) := by decide +kernel
theorem dX4_become_113 : decode cX4_become 113 = .ok (.invokevirtual 56, 3) := by decide +kernel
theorem dX4_become_116 : decode cX4_become 116 = .ok (.aload_n 0, 1) := by decide +kernel
theorem dX4_become_117 : decode cX4_become 117 = .ok (.aload_n 1, 1) := by decide +kernel
theorem dX4_become_118 : decode cX4_become 118 = .ok (.getfield 43, 3) := by decide +kernel
theorem dX4_become_121 : decode cX4_become 121 = .ok (.aload_n 0, 1) := by decide +kernel
theorem dX4_become_122 : decode cX4_become 122 = .ok (.getfield 43, 3) := by decide +kernel
theorem dX4_become_125 : decode cX4_become 125 = .ok (.invokevirtual 56, 3) := by decide +kernel
theorem dX4_become_128 : decode cX4_become 128 = .ok (.return_, 1) := by decide +kernel
theorem dX4_isIn_0 : decode cX4_isIn 0 = .ok (.aload_n 0, 1) := by decide +kernel
theorem dX4_isIn_1 : decode cX4_isIn 1 = .ok (.getfield 31, 3) := by decide +kernel
theorem dX4_isIn_4 : decode cX4_isIn 4 = .ok (.iload_n 1, 1) := by decide +kernel
theorem dX4_isIn_5 : decode cX4_isIn 5 = .ok (.iaload, 1) := by decide +kernel
theorem dX4_isIn_6 : decode cX4_isIn 6 = .ok (.iconst (-1), 1) := by decide +kernel
theorem dX4_isIn_7 : decode cX4_isIn 7 = .ok (.if_icmp .eq 7, 3) := by decide +kernel
theorem dX4_isIn_10 : decode cX4_isIn 10 = .ok (.iconst 1, 1) := by decide +kernel
theorem dX4_isIn_11 : decode cX4_isIn 11 = .ok (.goto 4, 3) := by decide +kernel
theorem dX4_isIn_14 : decode cX4_isIn 14 = .ok (.iconst 0, 1) := by decide +kernel
theorem dX4_isIn_15 : decode cX4_isIn 15 = .ok (.ireturn, 1) := by decide +kernel
set_option maxRecDepth 20000 in
theorem ggX4_time_X4_isIn : GoodIn wsX4_time wsX4_isIn := goodIn_r _ [7, 1, 8, 9, 10, 11, 12, 13, 14, 15, 16, 17, 18, 19] (by decide +kernel) (by decide +kernel)
set_option maxRecDepth 20000 in
theorem gX4_time_X4_isIn : GoodIn wsX4_time (wsV RX4 60 RX4 yX4_isIn wsX4_isIn) := goodIn_app (goodIn_of _ (by decide +kernel)) ggX4_time_X4_isIn
theorem dX4_time_0 : decode cX4_time 0 = .ok (.aload_n 0, 1) := by decide +kernel
theorem dX4_time_1 : decode cX4_time 1 = .ok (.iload_n 1, 1) := by decide +kernel
theorem dX4_time_2 : decode cX4_time 2 = .ok (.invokevirtual 60, 3) := by decide +kernel
theorem dX4_time_5 : decode cX4_time 5 = .ok (.ifCond .eq 21, 3) := by decide +kernel
theorem dX4_time_8 : decode cX4_time 8 = .ok (.aload_n 0, 1) := by decide +kernel
theorem dX4_time_9 : decode cX4_time 9 = .ok (.getfield 31, 3) := by decide +kernel
theorem dX4_time_12 : decode cX4_time 12 = .ok (.iload_n 1, 1) := by decide +kernel
theorem dX4_time_13 : decode cX4_time 13 = .ok (.iaload, 1) := by decide +kernel
theorem dX4_time_14 : decode cX4_time 14 = .ok (.iconst 1, 1) := by decide +kernel
theorem dX4_time_15 : decode cX4_time 15 = .ok (.iadd, 1) := by decide +kernel
theorem dX4_time_16 : decode cX4_time 16 = .ok (.aload_n 0, 1) := by decide +kernel
theorem dX4_time_17 : decode cX4_time 17 = .ok (.getfield 28, 3) := by decide +kernel
theorem dX4_time_20 : decode cX4_time 20 = .ok (.iload_n 1, 1) := by decide +kernel
theorem dX4_time_21 : decode cX4_time 21 = .ok (.iaload, 1) := by decide +kernel
theorem dX4_time_22 : decode cX4_time 22 = .ok (.iadd, 1) := by decide +kernel
theorem dX4_time_23 : decode cX4_time 23 = .ok (.goto 4, 3) := by decide +kernel
theorem dX4_time_26 : decode cX4_time 26 = .ok (.iconst (-1), 1) := by decide +kernel
theorem dX4_time_27 : decode cX4_time 27 = .ok (.ireturn, 1) := by decide +kernel
theorem dX4_stroke_0 : decode cX4_stroke 0 = .ok (.aload_n 0, 1) := by decide +kernel
theorem dX4_stroke_1 : decode cX4_stroke 1 = .ok (.getfield 43, 3) := by decide +kernel
theorem dX4_stroke_4 : decode cX4_stroke 4 = .ok (.iload_n 1, 1) := by decide +kernel
theorem dX4_stroke_5 : decode cX4_stroke 5 = .ok (.iaload, 1) := by decide +kernel
theorem dX4_stroke_6 : decode cX4_stroke 6 = .ok (.getstatic 64, 3) := by decide +kernel
theorem dX4_stroke_9 : decode cX4_stroke 9 = .ok (.aload_n 0, 1) := by decide +kernel
theorem dX4_stroke_10 : decode cX4_stroke 10 = .ok (.getfield 40, 3) := by decide +kernel
theorem dX4_stroke_13 : decode cX4_stroke 13 = .ok (.iload_n 1, 1) := by decide +kernel
theorem dX4_stroke_14 : decode cX4_stroke 14 = .ok (.iaload, 1) := by decide +kernel
theorem dX4_stroke_15 : decode cX4_stroke 15 = .ok (.iconst 1, 1) := by decide +kernel
theorem dX4_stroke_16 : decode cX4_stroke 16 = .ok (.isub, 1) := by decide +kernel
theorem dX4_stroke_17 : decode cX4_stroke 17 = .ok (.iload_n 2, 1) := by decide +kernel
theorem dX4_stroke_18 : decode cX4_stroke 18 = .ok (.isub, 1) := by decide +kernel
theorem dX4_stroke_19 : decode cX4_stroke 19 = .ok (.iaload, 1) := by decide +kernel
theorem dX4_stroke_20 : decode cX4_stroke 20 = .ok (.idiv, 1) := by decide +kernel
theorem dX4_stroke_21 : decode cX4_stroke 21 = .ok (.bipush 10, 2) := by decide +kernel
theorem dX4_stroke_23 : decode cX4_stroke 23 = .ok (.irem, 1) := by decide +kernel
theorem dX4_stroke_24 : decode cX4_stroke 24 = .ok (.ireturn, 1) := by decide +kernel
theorem dX4_soak_0 : decode cX4_soak 0 = .ok (.aload_n 0, 1) := by decide +kernel
theorem dX4_soak_1 : decode cX4_soak 1 = .ok (.getfield 25, 3) := by decide +kernel
theorem dX4_soak_4 : decode cX4_soak 4 = .ok (.iload_n 1, 1) := by decide +kernel
theorem dX4_soak_5 : decode cX4_soak 5 = .ok (.bipush 30, 2) := by decide +kernel
theorem dX4_soak_7 : decode cX4_soak 7 = .ok (.aload_n 0, 1) := by decide +kernel
theorem dX4_soak_8 : decode cX4_soak 8 = .ok (.getfield 25, 3) := by decide +kernel
theorem dX4_soak_11 : decode cX4_soak 11 = .ok (.iload_n 1, 1) := by decide +kernel
theorem dX4_soak_12 : decode cX4_soak 12 = .ok (.iaload, 1) := by decide +kernel
theorem dX4_soak_13 : decode cX4_soak 13 = .ok (.iload_n 2, 1) := by decide +kernel
theorem dX4_soak_14 : decode cX4_soak 14 = .ok (.iadd, 1) := by decide +kernel
theorem dX4_soak_15 : decode cX4_soak 15 = .ok (.invokestatic 67, 3) := by decide +kernel
theorem dX4_soak_18 : decode cX4_soak 18 = .ok (.iastore, 1) := by decide +kernel
theorem dX4_soak_19 : decode cX4_soak 19 = .ok (.return_, 1) := by decide +kernel
set_option maxRecDepth 20000 in
theorem ggX4_paddles_X4_stroke : GoodIn wsX4_paddles wsX4_stroke := goodIn_r _ [18, 19, 2, 20, 21, 22, 23, 24, 25, 26, 27, 28, 29, 30, 31] (by decide +kernel) (by decide +kernel)
set_option maxRecDepth 20000 in
theorem gX4_paddles_X4_stroke : GoodIn wsX4_paddles (wsV RX4 73 RX4 yX4_stroke wsX4_stroke) := goodIn_app (goodIn_of _ (by decide +kernel)) ggX4_paddles_X4_stroke
theorem dX4_paddles_0 : decode cX4_paddles 0 = .ok (.aload_n 0, 1) := by decide +kernel
theorem dX4_paddles_1 : decode cX4_paddles 1 = .ok (.iload_n 1, 1) := by decide +kernel
theorem dX4_paddles_2 : decode cX4_paddles 2 = .ok (.aload_n 0, 1) := by decide +kernel
theorem dX4_paddles_3 : decode cX4_paddles 3 = .ok (.getfield 52, 3) := by decide +kernel
theorem dX4_paddles_6 : decode cX4_paddles 6 = .ok (.aload_n 0, 1) := by decide +kernel
theorem dX4_paddles_7 : decode cX4_paddles 7 = .ok (.getfield 40, 3) := by decide +kernel
theorem dX4_paddles_10 : decode cX4_paddles 10 = .ok (.iload_n 1, 1) := by decide +kernel
theorem dX4_paddles_11 : decode cX4_paddles 11 = .ok (.iaload, 1) := by decide +kernel
theorem dX4_paddles_12 : decode cX4_paddles 12 = .ok (.irem, 1) := by decide +kernel
theorem dX4_paddles_13 : decode cX4_paddles 13 = .ok (.invokevirtual 73, 3) := by decide +kernel
theorem dX4_paddles_16 : decode cX4_paddles 16 = .ok (.istore_n 2, 1) := by decide +kernel
theorem dX4_paddles_17 : decode cX4_paddles 17 = .ok (.aload_n 0, 1) := by decide +kernel
theorem dX4_paddles_18 : decode cX4_paddles 18 = .ok (.getfield 22, 3) := by decide +kernel
theorem dX4_paddles_21 : decode cX4_paddles 21 = .ok (.iload_n 1, 1) := by decide +kernel
theorem dX4_paddles_22 : decode cX4_paddles 22 = .ok (.dup2, 1) := by decide +kernel
theorem dX4_paddles_23 : decode cX4_paddles 23 = .ok (.iaload, 1) := by decide +kernel
theorem dX4_paddles_24 : decode cX4_paddles 24 = .ok (.iload_n 2, 1) := by decide +kernel
theorem dX4_paddles_25 : decode cX4_paddles 25 = .ok (.iconst 1, 1) := by decide +kernel
theorem dX4_paddles_26 : decode cX4_paddles 26 = .ok (.if_icmp .ne 7, 3) := by decide +kernel
theorem dX4_paddles_29 : decode cX4_paddles 29 = .ok (.iconst 1, 1) := by decide +kernel
theorem dX4_paddles_30 : decode cX4_paddles 30 = .ok (.goto 13, 3) := by decide +kernel
theorem dX4_paddles_33 : decode cX4_paddles 33 = .ok (.iload_n 2, 1) := by decide +kernel
theorem dX4_paddles_34 : decode cX4_paddles 34 = .ok (.iconst 2, 1) := by decide +kernel
theorem dX4_paddles_35 : decode cX4_paddles 35 = .ok (.if_icmp .ne 7, 3) := by decide +kernel
theorem dX4_paddles_38 : decode cX4_paddles 38 = .ok (.iconst (-1), 1) := by decide +kernel
theorem dX4_paddles_39 : decode cX4_paddles 39 = .ok (.goto 4, 3) := by decide +kernel
theorem dX4_paddles_42 : decode cX4_paddles 42 = .ok (.iconst 0, 1) := by decide +kernel
theorem dX4_paddles_43 : decode cX4_paddles 43 = .ok (.iadd, 1) := by decide +kernel
theorem dX4_paddles_44 : decode cX4_paddles 44 = .ok (.iastore, 1) := by decide +kernel
theorem dX4_paddles_45 : decode cX4_paddles 45 = .ok (.aload_n 0, 1) := by decide +kernel
theorem dX4_paddles_46 : decode cX4_paddles 46 = .ok (.getfield 22, 3) := by decide +kernel
theorem dX4_paddles_49 : decode cX4_paddles 49 = .ok (.iload_n 1, 1) := by decide +kernel
theorem dX4_paddles_50 : decode cX4_paddles 50 = .ok (.iaload, 1) := by decide +kernel
theorem dX4_paddles_51 : decode cX4_paddles 51 = .ok (.invokestatic 76, 3) := by decide +kernel
theorem dX4_paddles_54 : decode cX4_paddles 54 = .ok (.iconst 5, 1) := by decide +kernel
theorem dX4_paddles_55 : decode cX4_paddles 55 = .ok (.if_icmp .ne 22, 3) := by decide +kernel
theorem dX4_paddles_58 : decode cX4_paddles 58 = .ok (.aload_n 0, 1) := by decide +kernel
theorem dX4_paddles_59 : decode cX4_paddles 59 = .ok (.getfield 22, 3) := by decide +kernel
theorem dX4_paddles_62 : decode cX4_paddles 62 = .ok (.iload_n 1, 1) := by decide +kernel
theorem dX4_paddles_63 : decode cX4_paddles 63 = .ok (.iconst 0, 1) := by decide +kernel
theorem dX4_paddles_64 : decode cX4_paddles 64 = .ok (.iastore, 1) := by decide +kernel
theorem dX4_paddles_65 : decode cX4_paddles 65 = .ok (.aload_n 0, 1) := by decide +kernel
theorem dX4_paddles_66 : decode cX4_paddles 66 = .ok (.getfield 34, 3) := by decide +kernel
theorem dX4_paddles_69 : decode cX4_paddles 69 = .ok (.iload_n 1, 1) := by decide +kernel
theorem dX4_paddles_70 : decode cX4_paddles 70 = .ok (.dup2, 1) := by decide +kernel
theorem dX4_paddles_71 : decode cX4_paddles 71 = .ok (.iaload, 1) := by decide +kernel
theorem dX4_paddles_72 : decode cX4_paddles 72 = .ok (.iconst 1, 1) := by decide +kernel
theorem dX4_paddles_73 : decode cX4_paddles 73 = .ok (.iadd, 1) := by decide +kernel
theorem dX4_paddles_74 : decode cX4_paddles 74 = .ok (.iastore, 1) := by decide +kernel
theorem dX4_paddles_75 : decode cX4_paddles 75 = .ok (.iconst 0, 1) := by decide +kernel
theorem dX4_paddles_76 : decode cX4_paddles 76 = .ok (.ireturn, 1) := by decide +kernel
theorem dX4_paddles_77 : decode cX4_paddles 77 = .ok (.iload_n 2, 1) := by decide +kernel
theorem dX4_paddles_78 : decode cX4_paddles 78 = .ok (.iconst 3, 1) := by decide +kernel
theorem dX4_paddles_79 : decode cX4_paddles 79 = .ok (.if_icmp .ne 15, 3) := by decide +kernel
theorem dX4_paddles_82 : decode cX4_paddles 82 = .ok (.aload_n 0, 1) := by decide +kernel
theorem dX4_paddles_83 : decode cX4_paddles 83 = .ok (.getfield 3, 3) := by decide +kernel
theorem dX4_paddles_86 : decode cX4_paddles 86 = .ok (.getfield 80, 3) := by decide +kernel
theorem dX4_paddles_89 : decode cX4_paddles 89 = .ok (.iload_n 1, 1) := by decide +kernel
theorem dX4_paddles_90 : decode cX4_paddles 90 = .ok (.iaload, 1) := by decide +kernel
theorem dX4_paddles_91 : decode cX4_paddles 91 = .ok (.goto 22, 3) := by decide +kernel
theorem dX4_paddles_94 : decode cX4_paddles 94 = .ok (.iload_n 2, 1) := by decide +kernel
theorem dX4_paddles_95 : decode cX4_paddles 95 = .ok (.ifCond .ne 7, 3) := by decide +kernel
theorem dX4_paddles_98 : decode cX4_paddles 98 = .ok (.iconst 0, 1) := by decide +kernel
theorem dX4_paddles_99 : decode cX4_paddles 99 = .ok (.goto 14, 3) := by decide +kernel
theorem dX4_paddles_102 : decode cX4_paddles 102 = .ok (.aload_n 0, 1) := by decide +kernel
theorem dX4_paddles_103 : decode cX4_paddles 103 = .ok (.getfield 3, 3) := by decide +kernel
theorem dX4_paddles_106 : decode cX4_paddles 106 = .ok (.getfield 80, 3) := by decide +kernel
theorem dX4_paddles_109 : decode cX4_paddles 109 = .ok (.iload_n 1, 1) := by decide +kernel
theorem dX4_paddles_110 : decode cX4_paddles 110 = .ok (.iaload, 1) := by decide +kernel
theorem dX4_paddles_111 : decode cX4_paddles 111 = .ok (.iconst 2, 1) := by decide +kernel
theorem dX4_paddles_112 : decode cX4_paddles 112 = .ok (.idiv, 1) := by decide +kernel
theorem dX4_paddles_113 : decode cX4_paddles 113 = .ok (.istore_n 3, 1) := by decide +kernel
theorem dX4_paddles_114 : decode cX4_paddles 114 = .ok (.iconst 0, 1) := by decide +kernel
theorem dX4_paddles_115 : decode cX4_paddles 115 = .ok (.iload_n 3, 1) := by decide +kernel
theorem dX4_paddles_116 : decode cX4_paddles 116 = .ok (.aload_n 0, 1) := by decide +kernel
theorem dX4_paddles_117 : decode cX4_paddles 117 = .ok (.getfield 25, 3) := by decide +kernel
theorem dX4_paddles_120 : decode cX4_paddles 120 = .ok (.iload_n 1, 1) := by decide +kernel
theorem dX4_paddles_121 : decode cX4_paddles 121 = .ok (.iaload, 1) := by decide +kernel
theorem dX4_paddles_122 : decode cX4_paddles 122 = .ok (.bipush 6, 2) := by decide +kernel
theorem dX4_paddles_124 : decode cX4_paddles 124 = .ok (.idiv, 1) := by decide +kernel
theorem dX4_paddles_125 : decode cX4_paddles 125 = .ok (.isub, 1) := by decide +kernel
theorem dX4_paddles_126 : decode cX4_paddles 126 = .ok (.invokestatic 83, 3) := by decide +kernel
theorem dX4_paddles_129 : decode cX4_paddles 129 = .ok (.ireturn, 1) := by decide +kernel
theorem dX4_drift_0 : decode cX4_drift 0 = .ok (.aload_n 0, 1) := by decide +kernel
theorem dX4_drift_1 : decode cX4_drift 1 = .ok (.getfield 19, 3) := by decide +kernel
theorem dX4_drift_4 : decode cX4_drift 4 = .ok (.iload_n 1, 1) := by decide +kernel
theorem dX4_drift_5 : decode cX4_drift 5 = .ok (.iaload, 1) := by decide +kernel
theorem dX4_drift_6 : decode cX4_drift 6 = .ok (.aload_n 0, 1) := by decide +kernel
theorem dX4_drift_7 : decode cX4_drift 7 = .ok (.getfield 22, 3) := by decide +kernel
theorem dX4_drift_10 : decode cX4_drift 10 = .ok (.iload_n 1, 1) := by decide +kernel
theorem dX4_drift_11 : decode cX4_drift 11 = .ok (.iaload, 1) := by decide +kernel
theorem dX4_drift_12 : decode cX4_drift 12 = .ok (.iconst 2, 1) := by decide +kernel
theorem dX4_drift_13 : decode cX4_drift 13 = .ok (.if_icmp .lt 7, 3) := by decide +kernel
theorem dX4_drift_16 : decode cX4_drift 16 = .ok (.iconst 1, 1) := by decide +kernel
theorem dX4_drift_17 : decode cX4_drift 17 = .ok (.goto 19, 3) := by decide +kernel
theorem dX4_drift_20 : decode cX4_drift 20 = .ok (.aload_n 0, 1) := by decide +kernel
theorem dX4_drift_21 : decode cX4_drift 21 = .ok (.getfield 22, 3) := by decide +kernel
theorem dX4_drift_24 : decode cX4_drift 24 = .ok (.iload_n 1, 1) := by decide +kernel
theorem dX4_drift_25 : decode cX4_drift 25 = .ok (.iaload, 1) := by decide +kernel
theorem dX4_drift_26 : decode cX4_drift 26 = .ok (.bipush (-2), 2) := by decide +kernel
theorem dX4_drift_28 : decode cX4_drift 28 = .ok (.if_icmp .gt 7, 3) := by decide +kernel
theorem dX4_drift_31 : decode cX4_drift 31 = .ok (.iconst (-1), 1) := by decide +kernel
theorem dX4_drift_32 : decode cX4_drift 32 = .ok (.goto 4, 3) := by decide +kernel
theorem dX4_drift_35 : decode cX4_drift 35 = .ok (.iconst 0, 1) := by decide +kernel
theorem dX4_drift_36 : decode cX4_drift 36 = .ok (.iadd, 1) := by decide +kernel
theorem dX4_drift_37 : decode cX4_drift 37 = .ok (.istore_n 2, 1) := by decide +kernel
theorem dX4_drift_38 : decode cX4_drift 38 = .ok (.iload_n 2, 1) := by decide +kernel
theorem dX4_drift_39 : decode cX4_drift 39 = .ok (.ifCond .lt 8, 3) := by decide +kernel
theorem dX4_drift_42 : decode cX4_drift 42 = .ok (.iload_n 2, 1) := by decide +kernel
theorem dX4_drift_43 : decode cX4_drift 43 = .ok (.iconst 5, 1) := by decide +kernel
theorem dX4_drift_44 : decode cX4_drift 44 = .ok (.if_icmp .ne 16, 3) := by decide +kernel
theorem dX4_drift_47 : decode cX4_drift 47 = .ok (.aload_n 0, 1) := by decide +kernel
theorem dX4_drift_48 : decode cX4_drift 48 = .ok (.getfield 28, 3) := by decide +kernel
theorem dX4_drift_51 : decode cX4_drift 51 = .ok (.iload_n 1, 1) := by decide +kernel
theorem dX4_drift_52 : decode cX4_drift 52 = .ok (.dup2, 1) := by decide +kernel
theorem dX4_drift_53 : decode cX4_drift 53 = .ok (.iaload, 1) := by decide +kernel
theorem dX4_drift_54 : decode cX4_drift 54 = .ok (.iconst 3, 1) := by decide +kernel
theorem dX4_drift_55 : decode cX4_drift 55 = .ok (.iadd, 1) := by decide +kernel
theorem dX4_drift_56 : decode cX4_drift 56 = .ok (.iastore, 1) := by decide +kernel
theorem dX4_drift_57 : decode cX4_drift 57 = .ok (.goto 10, 3) := by decide +kernel
theorem dX4_drift_60 : decode cX4_drift 60 = .ok (.aload_n 0, 1) := by decide +kernel
theorem dX4_drift_61 : decode cX4_drift 61 = .ok (.getfield 19, 3) := by decide +kernel
theorem dX4_drift_64 : decode cX4_drift 64 = .ok (.iload_n 1, 1) := by decide +kernel
theorem dX4_drift_65 : decode cX4_drift 65 = .ok (.iload_n 2, 1) := by decide +kernel
theorem dX4_drift_66 : decode cX4_drift 66 = .ok (.iastore, 1) := by decide +kernel
theorem dX4_drift_67 : decode cX4_drift 67 = .ok (.return_, 1) := by decide +kernel
theorem dX4_stopsAt_0 : decode cX4_stopsAt 0 = .ok (.iconst (-1), 1) := by decide +kernel
theorem dX4_stopsAt_1 : decode cX4_stopsAt 1 = .ok (.istore_n 3, 1) := by decide +kernel
theorem dX4_stopsAt_2 : decode cX4_stopsAt 2 = .ok (.iconst 0, 1) := by decide +kernel
theorem dX4_stopsAt_3 : decode cX4_stopsAt 3 = .ok (.istore 4, 2) := by decide +kernel
theorem dX4_stopsAt_5 : decode cX4_stopsAt 5 = .ok (.iload 4, 2) := by decide +kernel
theorem dX4_stopsAt_7 : decode cX4_stopsAt 7 = .ok (.aload_n 0, 1) := by decide +kernel
theorem dX4_stopsAt_8 : decode cX4_stopsAt 8 = .ok (.getfield 3, 3) := by decide +kernel
theorem dX4_stopsAt_11 : decode cX4_stopsAt 11 = .ok (.getfield 86, 3) := by decide +kernel
theorem dX4_stopsAt_14 : decode cX4_stopsAt 14 = .ok (.if_icmp .ge 91, 3) := by decide +kernel
theorem dX4_stopsAt_17 : decode cX4_stopsAt 17 = .ok (.aload_n 0, 1) := by decide +kernel
theorem dX4_stopsAt_18 : decode cX4_stopsAt 18 = .ok (.getfield 3, 3) := by decide +kernel
theorem dX4_stopsAt_21 : decode cX4_stopsAt 21 = .ok (.getfield 89, 3) := by decide +kernel
theorem dX4_stopsAt_24 : decode cX4_stopsAt 24 = .ok (.iload 4, 2) := by decide +kernel
theorem dX4_stopsAt_26 : decode cX4_stopsAt 26 = .ok (.iaload, 1) := by decide +kernel
theorem dX4_stopsAt_27 : decode cX4_stopsAt 27 = .ok (.aload_n 0, 1) := by decide +kernel
theorem dX4_stopsAt_28 : decode cX4_stopsAt 28 = .ok (.getfield 15, 3) := by decide +kernel
theorem dX4_stopsAt_31 : decode cX4_stopsAt 31 = .ok (.iload_n 1, 1) := by decide +kernel
theorem dX4_stopsAt_32 : decode cX4_stopsAt 32 = .ok (.iaload, 1) := by decide +kernel
theorem dX4_stopsAt_33 : decode cX4_stopsAt 33 = .ok (.if_icmp .le 66, 3) := by decide +kernel
theorem dX4_stopsAt_36 : decode cX4_stopsAt 36 = .ok (.aload_n 0, 1) := by decide +kernel
theorem dX4_stopsAt_37 : decode cX4_stopsAt 37 = .ok (.getfield 3, 3) := by decide +kernel
theorem dX4_stopsAt_40 : decode cX4_stopsAt 40 = .ok (.getfield 89, 3) := by decide +kernel
theorem dX4_stopsAt_43 : decode cX4_stopsAt 43 = .ok (.iload 4, 2) := by decide +kernel
theorem dX4_stopsAt_45 : decode cX4_stopsAt 45 = .ok (.iaload, 1) := by decide +kernel
theorem dX4_stopsAt_46 : decode cX4_stopsAt 46 = .ok (.iload_n 2, 1) := by decide +kernel
theorem dX4_stopsAt_47 : decode cX4_stopsAt 47 = .ok (.if_icmp .gt 52, 3) := by decide +kernel
theorem dX4_stopsAt_50 : decode cX4_stopsAt 50 = .ok (.aload_n 0, 1) := by decide +kernel
theorem dX4_stopsAt_51 : decode cX4_stopsAt 51 = .ok (.getfield 3, 3) := by decide +kernel
theorem dX4_stopsAt_54 : decode cX4_stopsAt 54 = .ok (.getfield 92, 3) := by decide +kernel
theorem dX4_stopsAt_57 : decode cX4_stopsAt 57 = .ok (.iload 4, 2) := by decide +kernel
theorem dX4_stopsAt_59 : decode cX4_stopsAt 59 = .ok (.iaload, 1) := by decide +kernel
theorem dX4_stopsAt_60 : decode cX4_stopsAt 60 = .ok (.aload_n 0, 1) := by decide +kernel
theorem dX4_stopsAt_61 : decode cX4_stopsAt 61 = .ok (.getfield 19, 3) := by decide +kernel
theorem dX4_stopsAt_64 : decode cX4_stopsAt 64 = .ok (.iload_n 1, 1) := by decide +kernel
theorem dX4_stopsAt_65 : decode cX4_stopsAt 65 = .ok (.iaload, 1) := by decide +kernel
theorem dX4_stopsAt_66 : decode cX4_stopsAt 66 = .ok (.if_icmp .eq 33, 3) := by decide +kernel
theorem dX4_stopsAt_69 : decode cX4_stopsAt 69 = .ok (.iload_n 3, 1) := by decide +kernel
theorem dX4_stopsAt_70 : decode cX4_stopsAt 70 = .ok (.iconst (-1), 1) := by decide +kernel
theorem dX4_stopsAt_71 : decode cX4_stopsAt 71 = .ok (.if_icmp .eq 17, 3) := by decide +kernel
theorem dX4_stopsAt_74 : decode cX4_stopsAt 74 = .ok (.aload_n 0, 1) := by decide +kernel
theorem dX4_stopsAt_75 : decode cX4_stopsAt 75 = .ok (.getfield 3, 3) := by decide +kernel
theorem dX4_stopsAt_78 : decode cX4_stopsAt 78 = .ok (.getfield 89, 3) := by decide +kernel
theorem dX4_stopsAt_81 : decode cX4_stopsAt 81 = .ok (.iload 4, 2) := by decide +kernel
theorem dX4_stopsAt_83 : decode cX4_stopsAt 83 = .ok (.iaload, 1) := by decide +kernel
theorem dX4_stopsAt_84 : decode cX4_stopsAt 84 = .ok (.iload_n 3, 1) := by decide +kernel
theorem dX4_stopsAt_85 : decode cX4_stopsAt 85 = .ok (.if_icmp .ge 14, 3) := by decide +kernel
theorem dX4_stopsAt_88 : decode cX4_stopsAt 88 = .ok (.aload_n 0, 1) := by decide +kernel
theorem dX4_stopsAt_89 : decode cX4_stopsAt 89 = .ok (.getfield 3, 3) := by decide +kernel
theorem dX4_stopsAt_92 : decode cX4_stopsAt 92 = .ok (.getfield 89, 3) := by decide +kernel
theorem dX4_stopsAt_95 : decode cX4_stopsAt 95 = .ok (.iload 4, 2) := by decide +kernel
theorem dX4_stopsAt_97 : decode cX4_stopsAt 97 = .ok (.iaload, 1) := by decide +kernel
theorem dX4_stopsAt_98 : decode cX4_stopsAt 98 = .ok (.istore_n 3, 1) := by decide +kernel
theorem dX4_stopsAt_99 : decode cX4_stopsAt 99 = .ok (.iinc 4 1, 3) := by decide +kernel
theorem dX4_stopsAt_102 : decode cX4_stopsAt 102 = .ok (.goto (-97), 3) := by decide +kernel
theorem dX4_stopsAt_105 : decode cX4_stopsAt 105 = .ok (.iload_n 3, 1) := by decide +kernel
theorem dX4_stopsAt_106 : decode cX4_stopsAt 106 = .ok (.ireturn, 1) := by decide +kernel
set_option maxRecDepth 20000 in
theorem ggX4_go_X4_paddles : GoodIn wsX4_go wsX4_paddles := goodIn_r _ [19, 13, 20, 2, 3, 4, 5, 6, 21, 7, 22, 23, 24, 25, 26, 27, 28, 18, 29, 30, 44, 45, 46, 47, 48, 49, 50, 51, 52, 53, 54, 55, 56, 57, 58, 59, 60, 61, 62, 63, 64] (by decide +kernel) (by decide +kernel)
set_option maxRecDepth 20000 in
theorem gX4_go_X4_paddles : GoodIn wsX4_go (wsV RX4 95 RX4 yX4_paddles wsX4_paddles) := goodIn_app (goodIn_of _ (by decide +kernel)) ggX4_go_X4_paddles
set_option maxRecDepth 20000 in
theorem ggX4_go_X4_drift : GoodIn wsX4_go wsX4_drift := goodIn_r _ [34, 8, 2, 35, 44, 45, 46, 47, 48, 49, 50, 51, 52, 53, 54, 55] (by decide +kernel) (by decide +kernel)
set_option maxRecDepth 20000 in
theorem gX4_go_X4_drift : GoodIn wsX4_go (wsV RX4 98 RX4 yX4_drift wsX4_drift) := goodIn_app (goodIn_of _ (by decide +kernel)) ggX4_go_X4_drift
set_option maxRecDepth 20000 in
theorem ggX4_go_X4_stopsAt : GoodIn wsX4_go wsX4_stopsAt := goodIn_r _ [39, 7, 1, 8, 44, 45, 46, 47, 48, 49, 50, 51, 52, 53, 54, 55, 56, 57, 58, 59, 60, 61, 62, 63, 64] (by decide +kernel) (by decide +kernel)
set_option maxRecDepth 20000 in
theorem gX4_go_X4_stopsAt : GoodIn wsX4_go (wsV RX4 105 RX4 yX4_stopsAt wsX4_stopsAt) := goodIn_app (goodIn_of _ (by decide +kernel)) ggX4_go_X4_stopsAt
set_option maxRecDepth 20000 in
theorem ggX4_go_X4_soak : GoodIn wsX4_go wsX4_soak := goodIn_r _ [43, 22, 10, 11, 5, 12, 44, 45, 46, 47, 48, 49, 50, 51, 52, 53, 54, 55] (by decide +kernel) (by decide +kernel)
set_option maxRecDepth 20000 in
theorem gX4_go_X4_soak : GoodIn wsX4_go (wsV RX4 108 RX4 yX4_soak wsX4_soak) := goodIn_app (goodIn_of _ (by decide +kernel)) ggX4_go_X4_soak
theorem dX4_go_0 : decode cX4_go 0 = .ok (.aload_n 0, 1) := by decide +kernel
theorem dX4_go_1 : decode cX4_go 1 = .ok (.iload_n 1, 1) := by decide +kernel
theorem dX4_go_2 : decode cX4_go 2 = .ok (.invokevirtual 95, 3) := by decide +kernel
theorem dX4_go_5 : decode cX4_go 5 = .ok (.istore_n 2, 1) := by decide +kernel
theorem dX4_go_6 : decode cX4_go 6 = .ok (.aload_n 0, 1) := by decide +kernel
theorem dX4_go_7 : decode cX4_go 7 = .ok (.iload_n 1, 1) := by decide +kernel
theorem dX4_go_8 : decode cX4_go 8 = .ok (.invokevirtual 98, 3) := by decide +kernel
theorem dX4_go_11 : decode cX4_go 11 = .ok (.aload_n 0, 1) := by decide +kernel
theorem dX4_go_12 : decode cX4_go 12 = .ok (.getfield 15, 3) := by decide +kernel
theorem dX4_go_15 : decode cX4_go 15 = .ok (.iload_n 1, 1) := by decide +kernel
theorem dX4_go_16 : decode cX4_go 16 = .ok (.iaload, 1) := by decide +kernel
theorem dX4_go_17 : decode cX4_go 17 = .ok (.iload_n 2, 1) := by decide +kernel
theorem dX4_go_18 : decode cX4_go 18 = .ok (.iconst 4, 1) := by decide +kernel
theorem dX4_go_19 : decode cX4_go 19 = .ok (.aload_n 0, 1) := by decide +kernel
theorem dX4_go_20 : decode cX4_go 20 = .ok (.getfield 22, 3) := by decide +kernel
theorem dX4_go_23 : decode cX4_go 23 = .ok (.iload_n 1, 1) := by decide +kernel
theorem dX4_go_24 : decode cX4_go 24 = .ok (.iaload, 1) := by decide +kernel
theorem dX4_go_25 : decode cX4_go 25 = .ok (.invokestatic 76, 3) := by decide +kernel
theorem dX4_go_28 : decode cX4_go 28 = .ok (.isub, 1) := by decide +kernel
theorem dX4_go_29 : decode cX4_go 29 = .ok (.imul, 1) := by decide +kernel
theorem dX4_go_30 : decode cX4_go 30 = .ok (.iconst 4, 1) := by decide +kernel
theorem dX4_go_31 : decode cX4_go 31 = .ok (.idiv, 1) := by decide +kernel
theorem dX4_go_32 : decode cX4_go 32 = .ok (.iadd, 1) := by decide +kernel
theorem dX4_go_33 : decode cX4_go 33 = .ok (.aload_n 0, 1) := by decide +kernel
theorem dX4_go_34 : decode cX4_go 34 = .ok (.getfield 3, 3) := by decide +kernel
theorem dX4_go_37 : decode cX4_go 37 = .ok (.getfield 102, 3) := by decide +kernel
theorem dX4_go_40 : decode cX4_go 40 = .ok (.aload_n 0, 1) := by decide +kernel
theorem dX4_go_41 : decode cX4_go 41 = .ok (.getfield 19, 3) := by decide +kernel
theorem dX4_go_44 : decode cX4_go 44 = .ok (.iload_n 1, 1) := by decide +kernel
theorem dX4_go_45 : decode cX4_go 45 = .ok (.iaload, 1) := by decide +kernel
theorem dX4_go_46 : decode cX4_go 46 = .ok (.iaload, 1) := by decide +kernel
theorem dX4_go_47 : decode cX4_go 47 = .ok (.iadd, 1) := by decide +kernel
theorem dX4_go_48 : decode cX4_go 48 = .ok (.istore_n 3, 1) := by decide +kernel
theorem dX4_go_49 : decode cX4_go 49 = .ok (.aload_n 0, 1) := by decide +kernel
theorem dX4_go_50 : decode cX4_go 50 = .ok (.iload_n 1, 1) := by decide +kernel
theorem dX4_go_51 : decode cX4_go 51 = .ok (.iload_n 3, 1) := by decide +kernel
theorem dX4_go_52 : decode cX4_go 52 = .ok (.invokevirtual 105, 3) := by decide +kernel
theorem dX4_go_55 : decode cX4_go 55 = .ok (.istore 4, 2) := by decide +kernel
theorem dX4_go_57 : decode cX4_go 57 = .ok (.iload 4, 2) := by decide +kernel
theorem dX4_go_59 : decode cX4_go 59 = .ok (.iconst (-1), 1) := by decide +kernel
theorem dX4_go_60 : decode cX4_go 60 = .ok (.if_icmp .eq 26, 3) := by decide +kernel
theorem dX4_go_63 : decode cX4_go 63 = .ok (.aload_n 0, 1) := by decide +kernel
theorem dX4_go_64 : decode cX4_go 64 = .ok (.getfield 22, 3) := by decide +kernel
theorem dX4_go_67 : decode cX4_go 67 = .ok (.iload_n 1, 1) := by decide +kernel
theorem dX4_go_68 : decode cX4_go 68 = .ok (.iconst 0, 1) := by decide +kernel
theorem dX4_go_69 : decode cX4_go 69 = .ok (.iastore, 1) := by decide +kernel
theorem dX4_go_70 : decode cX4_go 70 = .ok (.aload_n 0, 1) := by decide +kernel
theorem dX4_go_71 : decode cX4_go 71 = .ok (.getfield 37, 3) := by decide +kernel
theorem dX4_go_74 : decode cX4_go 74 = .ok (.iload_n 1, 1) := by decide +kernel
theorem dX4_go_75 : decode cX4_go 75 = .ok (.dup2, 1) := by decide +kernel
theorem dX4_go_76 : decode cX4_go 76 = .ok (.iaload, 1) := by decide +kernel
theorem dX4_go_77 : decode cX4_go 77 = .ok (.iconst 1, 1) := by decide +kernel
theorem dX4_go_78 : decode cX4_go 78 = .ok (.iadd, 1) := by decide +kernel
theorem dX4_go_79 : decode cX4_go 79 = .ok (.iastore, 1) := by decide +kernel
theorem dX4_go_80 : decode cX4_go 80 = .ok (.aload_n 0, 1) := by decide +kernel
theorem dX4_go_81 : decode cX4_go 81 = .ok (.iload_n 1, 1) := by decide +kernel
theorem dX4_go_82 : decode cX4_go 82 = .ok (.iconst 5, 1) := by decide +kernel
theorem dX4_go_83 : decode cX4_go 83 = .ok (.invokevirtual 108, 3) := by decide +kernel
theorem dX4_go_86 : decode cX4_go 86 = .ok (.aload_n 0, 1) := by decide +kernel
theorem dX4_go_87 : decode cX4_go 87 = .ok (.getfield 15, 3) := by decide +kernel
theorem dX4_go_90 : decode cX4_go 90 = .ok (.iload_n 1, 1) := by decide +kernel
theorem dX4_go_91 : decode cX4_go 91 = .ok (.iload 4, 2) := by decide +kernel
theorem dX4_go_93 : decode cX4_go 93 = .ok (.iconst (-1), 1) := by decide +kernel
theorem dX4_go_94 : decode cX4_go 94 = .ok (.if_icmp .ne 13, 3) := by decide +kernel
theorem dX4_go_97 : decode cX4_go 97 = .ok (.sipush 200, 3) := by decide +kernel
theorem dX4_go_100 : decode cX4_go 100 = .ok (.iload_n 3, 1) := by decide +kernel
theorem dX4_go_101 : decode cX4_go 101 = .ok (.invokestatic 67, 3) := by decide +kernel
theorem dX4_go_104 : decode cX4_go 104 = .ok (.goto 5, 3) := by decide +kernel
theorem dX4_go_107 : decode cX4_go 107 = .ok (.iload 4, 2) := by decide +kernel
theorem dX4_go_109 : decode cX4_go 109 = .ok (.iastore, 1) := by decide +kernel
theorem dX4_go_110 : decode cX4_go 110 = .ok (.aload_n 0, 1) := by decide +kernel
theorem dX4_go_111 : decode cX4_go 111 = .ok (.getfield 52, 3) := by decide +kernel
theorem dX4_go_114 : decode cX4_go 114 = .ok (.iconst 4, 1) := by decide +kernel
theorem dX4_go_115 : decode cX4_go 115 = .ok (.irem, 1) := by decide +kernel
theorem dX4_go_116 : decode cX4_go 116 = .ok (.ifCond .ne 9, 3) := by decide +kernel
theorem dX4_go_119 : decode cX4_go 119 = .ok (.aload_n 0, 1) := by decide +kernel
theorem dX4_go_120 : decode cX4_go 120 = .ok (.iload_n 1, 1) := by decide +kernel
theorem dX4_go_121 : decode cX4_go 121 = .ok (.iconst 1, 1) := by decide +kernel
theorem dX4_go_122 : decode cX4_go 122 = .ok (.invokevirtual 108, 3) := by decide +kernel
theorem dX4_go_125 : decode cX4_go 125 = .ok (.aload_n 0, 1) := by decide +kernel
theorem dX4_go_126 : decode cX4_go 126 = .ok (.getfield 15, 3) := by decide +kernel
theorem dX4_go_129 : decode cX4_go 129 = .ok (.iload_n 1, 1) := by decide +kernel
theorem dX4_go_130 : decode cX4_go 130 = .ok (.iaload, 1) := by decide +kernel
theorem dX4_go_131 : decode cX4_go 131 = .ok (.sipush 200, 3) := by decide +kernel
theorem dX4_go_134 : decode cX4_go 134 = .ok (.if_icmp .ne 13, 3) := by decide +kernel
theorem dX4_go_137 : decode cX4_go 137 = .ok (.aload_n 0, 1) := by decide +kernel
theorem dX4_go_138 : decode cX4_go 138 = .ok (.getfield 31, 3) := by decide +kernel
theorem dX4_go_141 : decode cX4_go 141 = .ok (.iload_n 1, 1) := by decide +kernel
theorem dX4_go_142 : decode cX4_go 142 = .ok (.aload_n 0, 1) := by decide +kernel
theorem dX4_go_143 : decode cX4_go 143 = .ok (.getfield 52, 3) := by decide +kernel
theorem dX4_go_146 : decode cX4_go 146 = .ok (.iastore, 1) := by decide +kernel
theorem dX4_go_147 : decode cX4_go 147 = .ok (.return_, 1) := by decide +kernel
set_option maxRecDepth 20000 in
theorem ggX4_go__X4_isIn : GoodIn wsX4_go_ wsX4_isIn := goodIn_r _ [7, 8, 52, 53, 54, 55, 56, 57, 58, 59, 60, 61, 62, 63] (by decide +kernel) (by decide +kernel)
set_option maxRecDepth 20000 in
theorem gX4_go__X4_isIn : GoodIn wsX4_go_ (wsV RX4 60 RX4 yX4_isIn wsX4_isIn) := goodIn_app (goodIn_of _ (by decide +kernel)) ggX4_go__X4_isIn
set_option maxRecDepth 20000 in
theorem ggX4_go__X4_go : GoodIn wsX4_go_ wsX4_go := goodIn_r _ [12, 13, 14, 15, 16, 17, 18, 1, 19, 20, 21, 22, 23, 2, 8, 24, 25, 26, 6, 27, 28, 29, 30, 31, 32, 33, 34, 35, 36, 37, 38, 39, 40, 41, 42, 43, 44, 45, 46, 47, 48, 49, 50, 51, 52, 53, 54, 55, 56, 57, 58, 59, 60, 61, 62, 63, 64, 65, 66, 67, 68, 69, 70, 71, 72] (by decide +kernel) (by decide +kernel)
set_option maxRecDepth 20000 in
theorem gX4_go__X4_go : GoodIn wsX4_go_ (wsV RX4 115 RX4 yX4_go wsX4_go) := goodIn_app (goodIn_of _ (by decide +kernel)) ggX4_go__X4_go
theorem dX4_go__0 : decode cX4_go_ 0 = .ok (.iconst 0, 1) := by decide +kernel
theorem dX4_go__1 : decode cX4_go_ 1 = .ok (.istore_n 1, 1) := by decide +kernel
theorem dX4_go__2 : decode cX4_go_ 2 = .ok (.iload_n 1, 1) := by decide +kernel
theorem dX4_go__3 : decode cX4_go_ 3 = .ok (.aload_n 0, 1) := by decide +kernel
theorem dX4_go__4 : decode cX4_go_ 4 = .ok (.getfield 3, 3) := by decide +kernel
theorem dX4_go__7 : decode cX4_go_ 7 = .ok (.getfield 112, 3) := by decide +kernel
theorem dX4_go__10 : decode cX4_go_ 10 = .ok (.if_icmp .ge 22, 3) := by decide +kernel
theorem dX4_go__13 : decode cX4_go_ 13 = .ok (.aload_n 0, 1) := by decide +kernel
theorem dX4_go__14 : decode cX4_go_ 14 = .ok (.iload_n 1, 1) := by decide +kernel
theorem dX4_go__15 : decode cX4_go_ 15 = .ok (.invokevirtual 60, 3) := by decide +kernel
theorem dX4_go__18 : decode cX4_go_ 18 = .ok (.ifCond .ne 8, 3) := by decide +kernel
theorem dX4_go__21 : decode cX4_go_ 21 = .ok (.aload_n 0, 1) := by decide +kernel
theorem dX4_go__22 : decode cX4_go_ 22 = .ok (.iload_n 1, 1) := by decide +kernel
theorem dX4_go__23 : decode cX4_go_ 23 = .ok (.invokevirtual 115, 3) := by decide +kernel
theorem dX4_go__26 : decode cX4_go_ 26 = .ok (.iinc 1 1, 3) := by decide +kernel
theorem dX4_go__29 : decode cX4_go_ 29 = .ok (.goto (-27), 3) := by decide +kernel
theorem dX4_go__32 : decode cX4_go_ 32 = .ok (.aload_n 0, 1) := by decide +kernel
theorem dX4_go__33 : decode cX4_go_ 33 = .ok (.dup, 1) := by decide +kernel
theorem dX4_go__34 : decode cX4_go_ 34 = .ok (.getfield 52, 3) := by decide +kernel
theorem dX4_go__37 : decode cX4_go_ 37 = .ok (.iconst 1, 1) := by decide +kernel
theorem dX4_go__38 : decode cX4_go_ 38 = .ok (.iadd, 1) := by decide +kernel
theorem dX4_go__39 : decode cX4_go_ 39 = .ok (.putfield 52, 3) := by decide +kernel
theorem dX4_go__42 : decode cX4_go_ 42 = .ok (.return_, 1) := by decide +kernel
set_option maxRecDepth 20000 in
theorem ggX4_in_X4_isIn : GoodIn wsX4_in wsX4_isIn := goodIn_r _ [6, 7, 8, 9, 10, 11, 12, 13, 14, 15, 16, 17, 18, 19] (by decide +kernel) (by decide +kernel)
set_option maxRecDepth 20000 in
theorem gX4_in_X4_isIn : GoodIn wsX4_in (wsV RX4 60 RX4 yX4_isIn wsX4_isIn) := goodIn_app (goodIn_of _ (by decide +kernel)) ggX4_in_X4_isIn
theorem dX4_in_0 : decode cX4_in 0 = .ok (.iconst 0, 1) := by decide +kernel
theorem dX4_in_1 : decode cX4_in 1 = .ok (.istore_n 1, 1) := by decide +kernel
theorem dX4_in_2 : decode cX4_in 2 = .ok (.iconst 0, 1) := by decide +kernel
theorem dX4_in_3 : decode cX4_in 3 = .ok (.istore_n 2, 1) := by decide +kernel
theorem dX4_in_4 : decode cX4_in 4 = .ok (.iload_n 2, 1) := by decide +kernel
theorem dX4_in_5 : decode cX4_in 5 = .ok (.aload_n 0, 1) := by decide +kernel
theorem dX4_in_6 : decode cX4_in 6 = .ok (.getfield 3, 3) := by decide +kernel
theorem dX4_in_9 : decode cX4_in 9 = .ok (.getfield 112, 3) := by decide +kernel
theorem dX4_in_12 : decode cX4_in 12 = .ok (.if_icmp .ge 25, 3) := by decide +kernel
theorem dX4_in_15 : decode cX4_in 15 = .ok (.iload_n 1, 1) := by decide +kernel
theorem dX4_in_16 : decode cX4_in 16 = .ok (.aload_n 0, 1) := by decide +kernel
theorem dX4_in_17 : decode cX4_in 17 = .ok (.iload_n 2, 1) := by decide +kernel
theorem dX4_in_18 : decode cX4_in 18 = .ok (.invokevirtual 60, 3) := by decide +kernel
theorem dX4_in_21 : decode cX4_in 21 = .ok (.ifCond .eq 7, 3) := by decide +kernel
theorem dX4_in_24 : decode cX4_in 24 = .ok (.iconst 1, 1) := by decide +kernel
theorem dX4_in_25 : decode cX4_in 25 = .ok (.goto 4, 3) := by decide +kernel
theorem dX4_in_28 : decode cX4_in 28 = .ok (.iconst 0, 1) := by decide +kernel
theorem dX4_in_29 : decode cX4_in 29 = .ok (.iadd, 1) := by decide +kernel
theorem dX4_in_30 : decode cX4_in 30 = .ok (.istore_n 1, 1) := by decide +kernel
theorem dX4_in_31 : decode cX4_in 31 = .ok (.iinc 2 1, 3) := by decide +kernel
theorem dX4_in_34 : decode cX4_in 34 = .ok (.goto (-30), 3) := by decide +kernel
theorem dX4_in_37 : decode cX4_in 37 = .ok (.iload_n 1, 1) := by decide +kernel
theorem dX4_in_38 : decode cX4_in 38 = .ok (.ireturn, 1) := by decide +kernel
set_option maxRecDepth 20000 in
theorem ggX4_counted_X4_isIn : GoodIn wsX4_counted wsX4_isIn := goodIn_r _ [10, 11, 20, 21, 22, 23, 24, 25, 26, 27, 28, 29, 30, 31] (by decide +kernel) (by decide +kernel)
set_option maxRecDepth 20000 in
theorem gX4_counted_X4_isIn : GoodIn wsX4_counted (wsV RX4 60 RX4 yX4_isIn wsX4_isIn) := goodIn_app (goodIn_of _ (by decide +kernel)) ggX4_counted_X4_isIn
set_option maxRecDepth 20000 in
theorem ggX4_counted_X4_time : GoodIn wsX4_counted wsX4_time := goodIn_r _ [15, 11, 2, 6, 7, 8, 9, 10, 20, 21, 22, 23, 24, 25, 26, 27, 28, 29, 30, 31] (by decide +kernel) (by decide +kernel)
set_option maxRecDepth 20000 in
theorem gX4_counted_X4_time : GoodIn wsX4_counted (wsV RX4 118 RX4 yX4_time wsX4_time) := goodIn_app (goodIn_of _ (by decide +kernel)) ggX4_counted_X4_time
set_option maxRecDepth 20000 in
theorem ggX4_counted_X4_in : GoodIn wsX4_counted wsX4_in := goodIn_r _ [19, 1, 6, 7, 8, 9, 10, 11, 20, 21, 22, 23, 24, 25, 26, 27, 28, 29, 30, 31, 32, 33, 34, 35, 36, 37, 38, 39, 40] (by decide +kernel) (by decide +kernel)
set_option maxRecDepth 20000 in
theorem gX4_counted_X4_in : GoodIn wsX4_counted (wsV RX4 121 RX4 yX4_in wsX4_in) := goodIn_app (goodIn_of _ (by decide +kernel)) ggX4_counted_X4_in
theorem dX4_counted_0 : decode cX4_counted 0 = .ok (.iconst 0, 1) := by decide +kernel
theorem dX4_counted_1 : decode cX4_counted 1 = .ok (.istore_n 2, 1) := by decide +kernel
theorem dX4_counted_2 : decode cX4_counted 2 = .ok (.iconst (-1), 1) := by decide +kernel
theorem dX4_counted_3 : decode cX4_counted 3 = .ok (.istore_n 3, 1) := by decide +kernel
theorem dX4_counted_4 : decode cX4_counted 4 = .ok (.iconst (-1), 1) := by decide +kernel
theorem dX4_counted_5 : decode cX4_counted 5 = .ok (.istore 4, 2) := by decide +kernel
theorem dX4_counted_7 : decode cX4_counted 7 = .ok (.iconst 0, 1) := by decide +kernel
theorem dX4_counted_8 : decode cX4_counted 8 = .ok (.istore 5, 2) := by decide +kernel
theorem dX4_counted_10 : decode cX4_counted 10 = .ok (.iload 5, 2) := by decide +kernel
theorem dX4_counted_12 : decode cX4_counted 12 = .ok (.aload_n 0, 1) := by decide +kernel
theorem dX4_counted_13 : decode cX4_counted 13 = .ok (.getfield 3, 3) := by decide +kernel
theorem dX4_counted_16 : decode cX4_counted 16 = .ok (.getfield 112, 3) := by decide +kernel
theorem dX4_counted_19 : decode cX4_counted 19 = .ok (.if_icmp .ge 89, 3) := by decide +kernel
theorem dX4_counted_22 : decode cX4_counted 22 = .ok (.iload_n 2, 1) := by decide +kernel
theorem dX4_counted_23 : decode cX4_counted 23 = .ok (.aload_n 0, 1) := by decide +kernel
theorem dX4_counted_24 : decode cX4_counted 24 = .ok (.getfield 28, 3) := by decide +kernel
theorem dX4_counted_27 : decode cX4_counted 27 = .ok (.iload 5, 2) := by decide +kernel
theorem dX4_counted_29 : decode cX4_counted 29 = .ok (.iaload, 1) := by decide +kernel
theorem dX4_counted_30 : decode cX4_counted 30 = .ok (.iadd, 1) := by decide +kernel
theorem dX4_counted_31 : decode cX4_counted 31 = .ok (.istore_n 2, 1) := by decide +kernel
theorem dX4_counted_32 : decode cX4_counted 32 = .ok (.aload_n 0, 1) := by decide +kernel
theorem dX4_counted_33 : decode cX4_counted 33 = .ok (.iload 5, 2) := by decide +kernel
theorem dX4_counted_35 : decode cX4_counted 35 = .ok (.invokevirtual 60, 3) := by decide +kernel
theorem dX4_counted_38 : decode cX4_counted 38 = .ok (.ifCond .eq 36, 3) := by decide +kernel
theorem dX4_counted_41 : decode cX4_counted 41 = .ok (.iload 4, 2) := by decide +kernel
theorem dX4_counted_43 : decode cX4_counted 43 = .ok (.iconst (-1), 1) := by decide +kernel
theorem dX4_counted_44 : decode cX4_counted 44 = .ok (.if_icmp .eq 18, 3) := by decide +kernel
theorem dX4_counted_47 : decode cX4_counted 47 = .ok (.aload_n 0, 1) := by decide +kernel
theorem dX4_counted_48 : decode cX4_counted 48 = .ok (.iload 5, 2) := by decide +kernel
theorem dX4_counted_50 : decode cX4_counted 50 = .ok (.invokevirtual 118, 3) := by decide +kernel
theorem dX4_counted_53 : decode cX4_counted 53 = .ok (.aload_n 0, 1) := by decide +kernel
theorem dX4_counted_54 : decode cX4_counted 54 = .ok (.iload 4, 2) := by decide +kernel
theorem dX4_counted_56 : decode cX4_counted 56 = .ok (.invokevirtual 118, 3) := by decide +kernel
theorem dX4_counted_59 : decode cX4_counted 59 = .ok (.if_icmp .ge 8, 3) := by decide +kernel
theorem dX4_counted_62 : decode cX4_counted 62 = .ok (.iload 5, 2) := by decide +kernel
theorem dX4_counted_64 : decode cX4_counted 64 = .ok (.goto 5, 3) := by decide +kernel
theorem dX4_counted_67 : decode cX4_counted 67 = .ok (.iload 4, 2) := by decide +kernel
theorem dX4_counted_69 : decode cX4_counted 69 = .ok (.istore 4, 2) := by decide +kernel
theorem dX4_counted_71 : decode cX4_counted 71 = .ok (.goto 31, 3) := by decide +kernel
theorem dX4_counted_74 : decode cX4_counted 74 = .ok (.iload_n 3, 1) := by decide +kernel
theorem dX4_counted_75 : decode cX4_counted 75 = .ok (.iconst (-1), 1) := by decide +kernel
theorem dX4_counted_76 : decode cX4_counted 76 = .ok (.if_icmp .eq 19, 3) := by decide +kernel
theorem dX4_counted_79 : decode cX4_counted 79 = .ok (.aload_n 0, 1) := by decide +kernel
theorem dX4_counted_80 : decode cX4_counted 80 = .ok (.getfield 15, 3) := by decide +kernel
theorem dX4_counted_83 : decode cX4_counted 83 = .ok (.iload 5, 2) := by decide +kernel
theorem dX4_counted_85 : decode cX4_counted 85 = .ok (.iaload, 1) := by decide +kernel
theorem dX4_counted_86 : decode cX4_counted 86 = .ok (.aload_n 0, 1) := by decide +kernel
theorem dX4_counted_87 : decode cX4_counted 87 = .ok (.getfield 15, 3) := by decide +kernel
theorem dX4_counted_90 : decode cX4_counted 90 = .ok (.iload_n 3, 1) := by decide +kernel
theorem dX4_counted_91 : decode cX4_counted 91 = .ok (.iaload, 1) := by decide +kernel
theorem dX4_counted_92 : decode cX4_counted 92 = .ok (.if_icmp .le 8, 3) := by decide +kernel
theorem dX4_counted_95 : decode cX4_counted 95 = .ok (.iload 5, 2) := by decide +kernel
theorem dX4_counted_97 : decode cX4_counted 97 = .ok (.goto 4, 3) := by decide +kernel
theorem dX4_counted_100 : decode cX4_counted 100 = .ok (.iload_n 3, 1) := by decide +kernel
theorem dX4_counted_101 : decode cX4_counted 101 = .ok (.istore_n 3, 1) := by decide +kernel
theorem dX4_counted_102 : decode cX4_counted 102 = .ok (.iinc 5 1, 3) := by decide +kernel
theorem dX4_counted_105 : decode cX4_counted 105 = .ok (.goto (-95), 3) := by decide +kernel
theorem dX4_counted_108 : decode cX4_counted 108 = .ok (.bipush 7, 2) := by decide +kernel
theorem dX4_counted_110 : decode cX4_counted 110 = .ok (.newarray .int, 2) := by decide +kernel
theorem dX4_counted_112 : decode cX4_counted 112 = .ok (.dup, 1) := by decide +kernel
theorem dX4_counted_113 : decode cX4_counted 113 = .ok (.iconst 0, 1) := by decide +kernel
theorem dX4_counted_114 : decode cX4_counted 114 = .ok (.aload_n 0, 1) := by decide +kernel
theorem dX4_counted_115 : decode cX4_counted 115 = .ok (.getfield 52, 3) := by decide +kernel
theorem dX4_counted_118 : decode cX4_counted 118 = .ok (.iastore, 1) := by decide +kernel
theorem dX4_counted_119 : decode cX4_counted 119 = .ok (.dup, 1) := by decide +kernel
theorem dX4_counted_120 : decode cX4_counted 120 = .ok (.iconst 1, 1) := by decide +kernel
theorem dX4_counted_121 : decode cX4_counted 121 = .ok (.aload_n 0, 1) := by decide +kernel
theorem dX4_counted_122 : decode cX4_counted 122 = .ok (.getfield 3, 3) := by decide +kernel
theorem dX4_counted_125 : decode cX4_counted 125 = .ok (.getfield 112, 3) := by decide +kernel
theorem dX4_counted_128 : decode cX4_counted 128 = .ok (.iastore, 1) := by decide +kernel
theorem dX4_counted_129 : decode cX4_counted 129 = .ok (.dup, 1) := by decide +kernel
theorem dX4_counted_130 : decode cX4_counted 130 = .ok (.iconst 2, 1) := by decide +kernel
theorem dX4_counted_131 : decode cX4_counted 131 = .ok (.aload_n 0, 1) := by decide +kernel
theorem dX4_counted_132 : decode cX4_counted 132 = .ok (.getfield 3, 3) := by decide +kernel
theorem dX4_counted_135 : decode cX4_counted 135 = .ok (.getfield 86, 3) := by decide +kernel
theorem dX4_counted_138 : decode cX4_counted 138 = .ok (.iastore, 1) := by decide +kernel
theorem dX4_counted_139 : decode cX4_counted 139 = .ok (.dup, 1) := by decide +kernel
theorem dX4_counted_140 : decode cX4_counted 140 = .ok (.iconst 3, 1) := by decide +kernel
theorem dX4_counted_141 : decode cX4_counted 141 = .ok (.aload_n 0, 1) := by decide +kernel
theorem dX4_counted_142 : decode cX4_counted 142 = .ok (.invokevirtual 121, 3) := by decide +kernel
theorem dX4_counted_145 : decode cX4_counted 145 = .ok (.iastore, 1) := by decide +kernel
theorem dX4_counted_146 : decode cX4_counted 146 = .ok (.dup, 1) := by decide +kernel
theorem dX4_counted_147 : decode cX4_counted 147 = .ok (.iconst 4, 1) := by decide +kernel
theorem dX4_counted_148 : decode cX4_counted 148 = .ok (.iload_n 2, 1) := by decide +kernel
theorem dX4_counted_149 : decode cX4_counted 149 = .ok (.iastore, 1) := by decide +kernel
theorem dX4_counted_150 : decode cX4_counted 150 = .ok (.dup, 1) := by decide +kernel
theorem dX4_counted_151 : decode cX4_counted 151 = .ok (.iconst 5, 1) := by decide +kernel
theorem dX4_counted_152 : decode cX4_counted 152 = .ok (.iload_n 3, 1) := by decide +kernel
theorem dX4_counted_153 : decode cX4_counted 153 = .ok (.iastore, 1) := by decide +kernel
theorem dX4_counted_154 : decode cX4_counted 154 = .ok (.dup, 1) := by decide +kernel
theorem dX4_counted_155 : decode cX4_counted 155 = .ok (.bipush 6, 2) := by decide +kernel
theorem dX4_counted_157 : decode cX4_counted 157 = .ok (.iload 4, 2) := by decide +kernel
theorem dX4_counted_159 : decode cX4_counted 159 = .ok (.iastore, 1) := by decide +kernel
theorem dX4_counted_160 : decode cX4_counted 160 = .ok (.astore 5, 2) := by decide +kernel
theorem dX4_counted_162 : decode cX4_counted 162 = .ok (.aload 5, 2) := by decide +kernel
theorem dX4_counted_164 : decode cX4_counted 164 = .ok (.iload_n 1, 1) := by decide +kernel
theorem dX4_counted_165 : decode cX4_counted 165 = .ok (.iaload, 1) := by decide +kernel
theorem dX4_counted_166 : decode cX4_counted 166 = .ok (.ireturn, 1) := by decide +kernel
set_option maxRecDepth 20000 in
theorem ggX5_init_X4_init : GoodIn wsX5_init wsX4_init := goodIn_r _ [15, 16, 17, 2, 3, 4, 18, 19, 20, 21, 22, 23, 24, 25, 26, 27, 37, 38, 39, 40, 41, 42, 43, 44, 45, 46, 47, 48] (by decide +kernel) (by decide +kernel)
set_option maxRecDepth 20000 in
theorem gX5_init_X4_init_n24 : GoodIn wsX5_init (wsX4_init) := ggX5_init_X4_init
theorem dX5_init_0 : decode cX5_init 0 = .ok (.aload_n 0, 1) := by decide +kernel
theorem dX5_init_1 : decode cX5_init 1 = .ok (.invokespecial 1, 3) := by decide +kernel
theorem dX5_init_4 : decode cX5_init 4 = .ok (.aload_n 0, 1) := by decide +kernel
theorem dX5_init_5 : decode cX5_init 5 = .ok (.iconst 5, 1) := by decide +kernel
theorem dX5_init_6 : decode cX5_init 6 = .ok (.newarray .int, 2) := by decide +kernel
theorem dX5_init_8 : decode cX5_init 8 = .ok (.dup, 1) := by decide +kernel
theorem dX5_init_9 : decode cX5_init 9 = .ok (.iconst 0, 1) := by decide +kernel
theorem dX5_init_10 : decode cX5_init 10 = .ok (.iconst 1, 1) := by decide +kernel
theorem dX5_init_11 : decode cX5_init 11 = .ok (.iastore, 1) := by decide +kernel
theorem dX5_init_12 : decode cX5_init 12 = .ok (.dup, 1) := by decide +kernel
theorem dX5_init_13 : decode cX5_init 13 = .ok (.iconst 1, 1) := by decide +kernel
theorem dX5_init_14 : decode cX5_init 14 = .ok (.iconst 2, 1) := by decide +kernel
theorem dX5_init_15 : decode cX5_init 15 = .ok (.iastore, 1) := by decide +kernel
theorem dX5_init_16 : decode cX5_init 16 = .ok (.dup, 1) := by decide +kernel
theorem dX5_init_17 : decode cX5_init 17 = .ok (.iconst 2, 1) := by decide +kernel
theorem dX5_init_18 : decode cX5_init 18 = .ok (.iconst 3, 1) := by decide +kernel
theorem dX5_init_19 : decode cX5_init 19 = .ok (.iastore, 1) := by decide +kernel
theorem dX5_init_20 : decode cX5_init 20 = .ok (.dup, 1) := by decide +kernel
theorem dX5_init_21 : decode cX5_init 21 = .ok (.iconst 3, 1) := by decide +kernel
theorem dX5_init_22 : decode cX5_init 22 = .ok (.iconst 2, 1) := by decide +kernel
theorem dX5_init_23 : decode cX5_init 23 = .ok (.iastore, 1) := by decide +kernel
theorem dX5_init_24 : decode cX5_init 24 = .ok (.dup, 1) := by decide +kernel
theorem dX5_init_25 : decode cX5_init 25 = .ok (.iconst 4, 1) := by decide +kernel
theorem dX5_init_26 : decode cX5_init 26 = .ok (.iconst 1, 1) := by decide +kernel
theorem dX5_init_27 : decode cX5_init 27 = .ok (.iastore, 1) := by decide +kernel
theorem dX5_init_28 : decode cX5_init 28 = .ok (.putfield 7, 3) := by decide +kernel
theorem dX5_init_31 : decode cX5_init 31 = .ok (.aload_n 0, 1) := by decide +kernel
theorem dX5_init_32 : decode cX5_init 32 = .ok (.bipush 6, 2) := by decide +kernel
theorem dX5_init_34 : decode cX5_init 34 = .ok (.newarray .int, 2) := by decide +kernel
theorem dX5_init_36 : decode cX5_init 36 = .ok (.putfield 13, 3) := by decide +kernel
theorem dX5_init_39 : decode cX5_init 39 = .ok (.aload_n 0, 1) := by decide +kernel
theorem dX5_init_40 : decode cX5_init 40 = .ok (.bipush 6, 2) := by decide +kernel
theorem dX5_init_42 : decode cX5_init 42 = .ok (.newarray .int, 2) := by decide +kernel
theorem dX5_init_44 : decode cX5_init 44 = .ok (.putfield 16, 3) := by decide +kernel
theorem dX5_init_47 : decode cX5_init 47 = .ok (.aload_n 0, 1) := by decide +kernel
theorem dX5_init_48 : decode cX5_init 48 = .ok (.bipush 6, 2) := by decide +kernel
theorem dX5_init_50 : decode cX5_init 50 = .ok (.newarray .int, 2) := by decide +kernel
theorem dX5_init_52 : decode cX5_init 52 = .ok (.putfield 19, 3) := by decide +kernel
theorem dX5_init_55 : decode cX5_init 55 = .ok (.aload_n 0, 1) := by decide +kernel
theorem dX5_init_56 : decode cX5_init 56 = .ok (.new 22, 3) := by decide +kernel
theorem dX5_init_59 : decode cX5_init 59 = .ok (.dup, 1) := by decide +kernel
theorem dX5_init_60 : decode cX5_init 60 = .ok (.aload_n 0, 1) := by decide +kernel
theorem dX5_init_61 : decode cX5_init 61 = .ok (.invokespecial 24, 3) := by decide +kernel
theorem dX5_init_64 : decode cX5_init 64 = .ok (.putfield 27, 3) := by decide +kernel
theorem dX5_init_67 : decode cX5_init 67 = .ok (.aload_n 0, 1) := by decide +kernel
theorem dX5_init_68 : decode cX5_init 68 = .ok (.new 22, 3) := by decide +kernel
theorem dX5_init_71 : decode cX5_init 71 = .ok (.dup, 1) := by decide +kernel
theorem dX5_init_72 : decode cX5_init 72 = .ok (.aload_n 0, 1) := by decide +kernel
theorem dX5_init_73 : decode cX5_init 73 = .ok (.invokespecial 24, 3) := by decide +kernel
theorem dX5_init_76 : decode cX5_init 76 = .ok (.putfield 31, 3) := by decide +kernel
theorem dX5_init_79 : decode cX5_init 79 = .ok (.return_, 1) := by decide +kernel
theorem dX5_thrown_0 : decode cX5_thrown 0 = .ok (.aload_n 0, 1) := by decide +kernel
theorem dX5_thrown_1 : decode cX5_thrown 1 = .ok (.getfield 34, 3) := by decide +kernel
theorem dX5_thrown_4 : decode cX5_thrown 4 = .ok (.ireturn, 1) := by decide +kernel
theorem dX5_no_0 : decode cX5_no 0 = .ok (.aload_n 0, 1) := by decide +kernel
theorem dX5_no_1 : decode cX5_no 1 = .ok (.iload_n 1, 1) := by decide +kernel
theorem dX5_no_2 : decode cX5_no 2 = .ok (.putfield 34, 3) := by decide +kernel
theorem dX5_no_5 : decode cX5_no 5 = .ok (.iconst 0, 1) := by decide +kernel
theorem dX5_no_6 : decode cX5_no 6 = .ok (.ireturn, 1) := by decide +kernel
theorem dX5_isFrom_0 : decode cX5_isFrom 0 = .ok (.iload_n 0, 1) := by decide +kernel
theorem dX5_isFrom_1 : decode cX5_isFrom 1 = .ok (.iload_n 1, 1) := by decide +kernel
theorem dX5_isFrom_2 : decode cX5_isFrom 2 = .ok (.if_icmp .lt 12, 3) := by decide +kernel
theorem dX5_isFrom_5 : decode cX5_isFrom 5 = .ok (.iload_n 0, 1) := by decide +kernel
theorem dX5_isFrom_6 : decode cX5_isFrom 6 = .ok (.iload_n 2, 1) := by decide +kernel
theorem dX5_isFrom_7 : decode cX5_isFrom 7 = .ok (.if_icmp .gt 7, 3) := by decide +kernel
theorem dX5_isFrom_10 : decode cX5_isFrom 10 = .ok (.iconst 1, 1) := by decide +kernel
theorem dX5_isFrom_11 : decode cX5_isFrom 11 = .ok (.goto 4, 3) := by decide +kernel
theorem dX5_isFrom_14 : decode cX5_isFrom 14 = .ok (.iconst 0, 1) := by decide +kernel
theorem dX5_isFrom_15 : decode cX5_isFrom 15 = .ok (.ireturn, 1) := by decide +kernel
set_option maxRecDepth 20000 in
theorem ggX5_isBoat_X5_isFrom : GoodIn wsX5_isBoat wsX5_isFrom := goodIn_r _ [5] (by decide +kernel) (by decide +kernel)
set_option maxRecDepth 20000 in
theorem gX5_isBoat_X5_isFrom : GoodIn wsX5_isBoat (va_wsS RX5 41 yX5_isFrom wsX5_isFrom) := goodIn_app (goodIn_of _ (by decide +kernel)) ggX5_isBoat_X5_isFrom
theorem dX5_isBoat_0 : decode cX5_isBoat 0 = .ok (.iload_n 1, 1) := by decide +kernel
theorem dX5_isBoat_1 : decode cX5_isBoat 1 = .ok (.iconst 0, 1) := by decide +kernel
theorem dX5_isBoat_2 : decode cX5_isBoat 2 = .ok (.aload_n 0, 1) := by decide +kernel
theorem dX5_isBoat_3 : decode cX5_isBoat 3 = .ok (.getfield 38, 3) := by decide +kernel
theorem dX5_isBoat_6 : decode cX5_isBoat 6 = .ok (.iconst 1, 1) := by decide +kernel
theorem dX5_isBoat_7 : decode cX5_isBoat 7 = .ok (.isub, 1) := by decide +kernel
theorem dX5_isBoat_8 : decode cX5_isBoat 8 = .ok (.invokestatic 41, 3) := by decide +kernel
theorem dX5_isBoat_11 : decode cX5_isBoat 11 = .ok (.ireturn, 1) := by decide +kernel
set_option maxRecDepth 20000 in
theorem ggX5_setWater_X5_isFrom : GoodIn wsX5_setWater wsX5_isFrom := goodIn_r _ [6] (by decide +kernel) (by decide +kernel)
set_option maxRecDepth 20000 in
theorem gX5_setWater_X5_isFrom : GoodIn wsX5_setWater (va_wsS RX5 41 yX5_isFrom wsX5_isFrom) := goodIn_app (goodIn_of _ (by decide +kernel)) ggX5_setWater_X5_isFrom
set_option maxRecDepth 20000 in
theorem ggX5_setWater_X5_no : GoodIn wsX5_setWater wsX5_no := goodIn_r _ [10, 1, 11, 12, 13, 14, 15, 16, 17, 18, 19] (by decide +kernel) (by decide +kernel)
set_option maxRecDepth 20000 in
theorem gX5_setWater_X5_no : GoodIn wsX5_setWater (wsV RX5 45 RX5 yX5_no wsX5_no) := goodIn_app (goodIn_of _ (by decide +kernel)) ggX5_setWater_X5_no
theorem dX5_setWater_0 : decode cX5_setWater 0 = .ok (.aload_n 0, 1) := by decide +kernel
theorem dX5_setWater_1 : decode cX5_setWater 1 = .ok (.iconst 0, 1) := by decide +kernel
theorem dX5_setWater_2 : decode cX5_setWater 2 = .ok (.putfield 34, 3) := by decide +kernel
theorem dX5_setWater_5 : decode cX5_setWater 5 = .ok (.iload_n 1, 1) := by decide +kernel
theorem dX5_setWater_6 : decode cX5_setWater 6 = .ok (.iconst 0, 1) := by decide +kernel
theorem dX5_setWater_7 : decode cX5_setWater 7 = .ok (.iconst 4, 1) := by decide +kernel
theorem dX5_setWater_8 : decode cX5_setWater 8 = .ok (.invokestatic 41, 3) := by decide +kernel
theorem dX5_setWater_11 : decode cX5_setWater 11 = .ok (.ifCond .ne 9, 3) := by decide +kernel
theorem dX5_setWater_14 : decode cX5_setWater 14 = .ok (.aload_n 0, 1) := by decide +kernel
theorem dX5_setWater_15 : decode cX5_setWater 15 = .ok (.iconst 1, 1) := by decide +kernel
theorem dX5_setWater_16 : decode cX5_setWater 16 = .ok (.invokevirtual 45, 3) := by decide +kernel
theorem dX5_setWater_19 : decode cX5_setWater 19 = .ok (.ireturn, 1) := by decide +kernel
theorem dX5_setWater_20 : decode cX5_setWater 20 = .ok (.iload_n 2, 1) := by decide +kernel
theorem dX5_setWater_21 : decode cX5_setWater 21 = .ok (.iconst 0, 1) := by decide +kernel
theorem dX5_setWater_22 : decode cX5_setWater 22 = .ok (.bipush 6, 2) := by decide +kernel
theorem dX5_setWater_24 : decode cX5_setWater 24 = .ok (.invokestatic 41, 3) := by decide +kernel
theorem dX5_setWater_27 : decode cX5_setWater 27 = .ok (.ifCond .ne 9, 3) := by decide +kernel
theorem dX5_setWater_30 : decode cX5_setWater 30 = .ok (.aload_n 0, 1) := by decide +kernel
theorem dX5_setWater_31 : decode cX5_setWater 31 = .ok (.iconst 2, 1) := by decide +kernel
theorem dX5_setWater_32 : decode cX5_setWater 32 = .ok (.invokevirtual 45, 3) := by decide +kernel
theorem dX5_setWater_35 : decode cX5_setWater 35 = .ok (.ireturn, 1) := by decide +kernel
theorem dX5_setWater_36 : decode cX5_setWater 36 = .ok (.aload_n 0, 1) := by decide +kernel
theorem dX5_setWater_37 : decode cX5_setWater 37 = .ok (.getfield 7, 3) := by decide +kernel
theorem dX5_setWater_40 : decode cX5_setWater 40 = .ok (.iload_n 1, 1) := by decide +kernel
theorem dX5_setWater_41 : decode cX5_setWater 41 = .ok (.iaload, 1) := by decide +kernel
theorem dX5_setWater_42 : decode cX5_setWater 42 = .ok (.istore_n 3, 1) := by decide +kernel
theorem dX5_setWater_43 : decode cX5_setWater 43 = .ok (.aload_n 0, 1) := by decide +kernel
theorem dX5_setWater_44 : decode cX5_setWater 44 = .ok (.getfield 7, 3) := by decide +kernel
theorem dX5_setWater_47 : decode cX5_setWater 47 = .ok (.iload_n 1, 1) := by decide +kernel
theorem dX5_setWater_48 : decode cX5_setWater 48 = .ok (.iload_n 2, 1) := by decide +kernel
theorem dX5_setWater_49 : decode cX5_setWater 49 = .ok (.iastore, 1) := by decide +kernel
theorem dX5_setWater_50 : decode cX5_setWater 50 = .ok (.iload_n 3, 1) := by decide +kernel
theorem dX5_setWater_51 : decode cX5_setWater 51 = .ok (.ireturn, 1) := by decide +kernel
set_option maxRecDepth 20000 in
theorem ggX5_weir_X5_isFrom : GoodIn wsX5_weir wsX5_isFrom := goodIn_r _ [8] (by decide +kernel) (by decide +kernel)
set_option maxRecDepth 20000 in
theorem gX5_weir_X5_isFrom : GoodIn wsX5_weir (va_wsS RX5 41 yX5_isFrom wsX5_isFrom) := goodIn_app (goodIn_of _ (by decide +kernel)) ggX5_weir_X5_isFrom
set_option maxRecDepth 20000 in
theorem ggX5_weir_X5_no : GoodIn wsX5_weir wsX5_no := goodIn_r _ [12, 1, 13, 14, 15, 16, 17, 18, 19, 20, 21] (by decide +kernel) (by decide +kernel)
set_option maxRecDepth 20000 in
theorem gX5_weir_X5_no : GoodIn wsX5_weir (wsV RX5 45 RX5 yX5_no wsX5_no) := goodIn_app (goodIn_of _ (by decide +kernel)) ggX5_weir_X5_no
theorem dX5_weir_0 : decode cX5_weir 0 = .ok (.aload_n 0, 1) := by decide +kernel
theorem dX5_weir_1 : decode cX5_weir 1 = .ok (.iconst 0, 1) := by decide +kernel
theorem dX5_weir_2 : decode cX5_weir 2 = .ok (.putfield 34, 3) := by decide +kernel
theorem dX5_weir_5 : decode cX5_weir 5 = .ok (.iload_n 1, 1) := by decide +kernel
theorem dX5_weir_6 : decode cX5_weir 6 = .ok (.iconst 1, 1) := by decide +kernel
theorem dX5_weir_7 : decode cX5_weir 7 = .ok (.sipush 199, 3) := by decide +kernel
theorem dX5_weir_10 : decode cX5_weir 10 = .ok (.invokestatic 41, 3) := by decide +kernel
theorem dX5_weir_13 : decode cX5_weir 13 = .ok (.ifCond .eq 12, 3) := by decide +kernel
theorem dX5_weir_16 : decode cX5_weir 16 = .ok (.iload_n 2, 1) := by decide +kernel
theorem dX5_weir_17 : decode cX5_weir 17 = .ok (.iconst 0, 1) := by decide +kernel
theorem dX5_weir_18 : decode cX5_weir 18 = .ok (.iconst 4, 1) := by decide +kernel
theorem dX5_weir_19 : decode cX5_weir 19 = .ok (.invokestatic 41, 3) := by decide +kernel
theorem dX5_weir_22 : decode cX5_weir 22 = .ok (.ifCond .ne 9, 3) := by decide +kernel
theorem dX5_weir_25 : decode cX5_weir 25 = .ok (.aload_n 0, 1) := by decide +kernel
theorem dX5_weir_26 : decode cX5_weir 26 = .ok (.iconst 1, 1) := by decide +kernel
theorem dX5_weir_27 : decode cX5_weir 27 = .ok (.invokevirtual 45, 3) := by decide +kernel
theorem dX5_weir_30 : decode cX5_weir 30 = .ok (.ireturn, 1) := by decide +kernel
theorem dX5_weir_31 : decode cX5_weir 31 = .ok (.aload_n 0, 1) := by decide +kernel
theorem dX5_weir_32 : decode cX5_weir 32 = .ok (.getfield 49, 3) := by decide +kernel
theorem dX5_weir_35 : decode cX5_weir 35 = .ok (.bipush 6, 2) := by decide +kernel
theorem dX5_weir_37 : decode cX5_weir 37 = .ok (.if_icmp .ge 7, 3) := by decide +kernel
theorem dX5_weir_40 : decode cX5_weir 40 = .ok (.iconst 1, 1) := by decide +kernel
theorem dX5_weir_41 : decode cX5_weir 41 = .ok (.goto 4, 3) := by decide +kernel
theorem dX5_weir_44 : decode cX5_weir 44 = .ok (.iconst 0, 1) := by decide +kernel
theorem dX5_weir_45 : decode cX5_weir 45 = .ok (.istore_n 3, 1) := by decide +kernel
theorem dX5_weir_46 : decode cX5_weir 46 = .ok (.iconst 0, 1) := by decide +kernel
theorem dX5_weir_47 : decode cX5_weir 47 = .ok (.istore 4, 2) := by decide +kernel
theorem dX5_weir_49 : decode cX5_weir 49 = .ok (.iload 4, 2) := by decide +kernel
theorem dX5_weir_51 : decode cX5_weir 51 = .ok (.aload_n 0, 1) := by decide +kernel
theorem dX5_weir_52 : decode cX5_weir 52 = .ok (.getfield 49, 3) := by decide +kernel
theorem dX5_weir_55 : decode cX5_weir 55 = .ok (.if_icmp .ge 28, 3) := by decide +kernel
theorem dX5_weir_58 : decode cX5_weir 58 = .ok (.iload_n 3, 1) := by decide +kernel
theorem dX5_weir_59 : decode cX5_weir 59 = .ok (.aload_n 0, 1) := by decide +kernel
theorem dX5_weir_60 : decode cX5_weir 60 = .ok (.getfield 13, 3) := by decide +kernel
theorem dX5_weir_63 : decode cX5_weir 63 = .ok (.iload 4, 2) := by decide +kernel
theorem dX5_weir_65 : decode cX5_weir 65 = .ok (.iaload, 1) := by decide +kernel
theorem dX5_weir_66 : decode cX5_weir 66 = .ok (.iload_n 1, 1) := by decide +kernel
theorem dX5_weir_67 : decode cX5_weir 67 = .ok (.if_icmp .eq 7, 3) := by decide +kernel
theorem dX5_weir_70 : decode cX5_weir 70 = .ok (.iconst 1, 1) := by decide +kernel
theorem dX5_weir_71 : decode cX5_weir 71 = .ok (.goto 4, 3) := by decide +kernel
theorem dX5_weir_74 : decode cX5_weir 74 = .ok (.iconst 0, 1) := by decide +kernel
theorem dX5_weir_75 : decode cX5_weir 75 = .ok (.iand, 1) := by decide +kernel
theorem dX5_weir_76 : decode cX5_weir 76 = .ok (.istore_n 3, 1) := by decide +kernel
theorem dX5_weir_77 : decode cX5_weir 77 = .ok (.iinc 4 1, 3) := by decide +kernel
theorem dX5_weir_80 : decode cX5_weir 80 = .ok (.goto (-31), 3) := by decide +kernel
theorem dX5_weir_83 : decode cX5_weir 83 = .ok (.iload_n 3, 1) := by decide +kernel
theorem dX5_weir_84 : decode cX5_weir 84 = .ok (.ifCond .ne 9, 3) := by decide +kernel
theorem dX5_weir_87 : decode cX5_weir 87 = .ok (.aload_n 0, 1) := by decide +kernel
theorem dX5_weir_88 : decode cX5_weir 88 = .ok (.iconst 2, 1) := by decide +kernel
theorem dX5_weir_89 : decode cX5_weir 89 = .ok (.invokevirtual 45, 3) := by decide +kernel
theorem dX5_weir_92 : decode cX5_weir 92 = .ok (.ireturn, 1) := by decide +kernel
theorem dX5_weir_93 : decode cX5_weir 93 = .ok (.aload_n 0, 1) := by decide +kernel
theorem dX5_weir_94 : decode cX5_weir 94 = .ok (.getfield 13, 3) := by decide +kernel
theorem dX5_weir_97 : decode cX5_weir 97 = .ok (.aload_n 0, 1) := by decide +kernel
theorem dX5_weir_98 : decode cX5_weir 98 = .ok (.getfield 49, 3) := by decide +kernel
theorem dX5_weir_101 : decode cX5_weir 101 = .ok (.iload_n 1, 1) := by decide +kernel
theorem dX5_weir_102 : decode cX5_weir 102 = .ok (.iastore, 1) := by decide +kernel
theorem dX5_weir_103 : decode cX5_weir 103 = .ok (.aload_n 0, 1) := by decide +kernel
theorem dX5_weir_104 : decode cX5_weir 104 = .ok (.getfield 16, 3) := by decide +kernel
theorem dX5_weir_107 : decode cX5_weir 107 = .ok (.aload_n 0, 1) := by decide +kernel
theorem dX5_weir_108 : decode cX5_weir 108 = .ok (.getfield 49, 3) := by decide +kernel
theorem dX5_weir_111 : decode cX5_weir 111 = .ok (.iload_n 2, 1) := by decide +kernel
theorem dX5_weir_112 : decode cX5_weir 112 = .ok (.iastore, 1) := by decide +kernel
theorem dX5_weir_113 : decode cX5_weir 113 = .ok (.aload_n 0, 1) := by decide +kernel
theorem dX5_weir_114 : decode cX5_weir 114 = .ok (.dup, 1) := by decide +kernel
theorem dX5_weir_115 : decode cX5_weir 115 = .ok (.getfield 49, 3) := by decide +kernel
theorem dX5_weir_118 : decode cX5_weir 118 = .ok (.iconst 1, 1) := by decide +kernel
theorem dX5_weir_119 : decode cX5_weir 119 = .ok (.iadd, 1) := by decide +kernel
theorem dX5_weir_120 : decode cX5_weir 120 = .ok (.putfield 49, 3) := by decide +kernel
theorem dX5_weir_123 : decode cX5_weir 123 = .ok (.aload_n 0, 1) := by decide +kernel
theorem dX5_weir_124 : decode cX5_weir 124 = .ok (.getfield 49, 3) := by decide +kernel
theorem dX5_weir_127 : decode cX5_weir 127 = .ok (.ireturn, 1) := by decide +kernel
set_option maxRecDepth 20000 in
theorem ggX5_launch_X5_isFrom : GoodIn wsX5_launch wsX5_isFrom := goodIn_r _ [8] (by decide +kernel) (by decide +kernel)
set_option maxRecDepth 20000 in
theorem gX5_launch_X5_isFrom : GoodIn wsX5_launch (va_wsS RX5 41 yX5_isFrom wsX5_isFrom) := goodIn_app (goodIn_of _ (by decide +kernel)) ggX5_launch_X5_isFrom
set_option maxRecDepth 20000 in
theorem ggX5_launch_X5_no : GoodIn wsX5_launch wsX5_no := goodIn_r _ [12, 1, 13, 14, 15, 16, 17, 18, 19, 20, 21] (by decide +kernel) (by decide +kernel)
set_option maxRecDepth 20000 in
theorem gX5_launch_X5_no : GoodIn wsX5_launch (wsV RX5 45 RX5 yX5_no wsX5_no) := goodIn_app (goodIn_of _ (by decide +kernel)) ggX5_launch_X5_no
theorem dX5_launch_0 : decode cX5_launch 0 = .ok (.aload_n 0, 1) := by decide +kernel
theorem dX5_launch_1 : decode cX5_launch 1 = .ok (.iconst 0, 1) := by decide +kernel
theorem dX5_launch_2 : decode cX5_launch 2 = .ok (.putfield 34, 3) := by decide +kernel
theorem dX5_launch_5 : decode cX5_launch 5 = .ok (.iload_n 1, 1) := by decide +kernel
theorem dX5_launch_6 : decode cX5_launch 6 = .ok (.iconst 0, 1) := by decide +kernel
theorem dX5_launch_7 : decode cX5_launch 7 = .ok (.iconst 4, 1) := by decide +kernel
theorem dX5_launch_8 : decode cX5_launch 8 = .ok (.invokestatic 41, 3) := by decide +kernel
theorem dX5_launch_11 : decode cX5_launch 11 = .ok (.ifCond .eq 13, 3) := by decide +kernel
theorem dX5_launch_14 : decode cX5_launch 14 = .ok (.iload_n 2, 1) := by decide +kernel
theorem dX5_launch_15 : decode cX5_launch 15 = .ok (.iconst 1, 1) := by decide +kernel
theorem dX5_launch_16 : decode cX5_launch 16 = .ok (.bipush 8, 2) := by decide +kernel
theorem dX5_launch_18 : decode cX5_launch 18 = .ok (.invokestatic 41, 3) := by decide +kernel
theorem dX5_launch_21 : decode cX5_launch 21 = .ok (.ifCond .ne 9, 3) := by decide +kernel
theorem dX5_launch_24 : decode cX5_launch 24 = .ok (.aload_n 0, 1) := by decide +kernel
theorem dX5_launch_25 : decode cX5_launch 25 = .ok (.iconst 1, 1) := by decide +kernel
theorem dX5_launch_26 : decode cX5_launch 26 = .ok (.invokevirtual 45, 3) := by decide +kernel
theorem dX5_launch_29 : decode cX5_launch 29 = .ok (.ireturn, 1) := by decide +kernel
theorem dX5_launch_30 : decode cX5_launch 30 = .ok (.aload_n 0, 1) := by decide +kernel
theorem dX5_launch_31 : decode cX5_launch 31 = .ok (.getfield 38, 3) := by decide +kernel
theorem dX5_launch_34 : decode cX5_launch 34 = .ok (.bipush 6, 2) := by decide +kernel
theorem dX5_launch_36 : decode cX5_launch 36 = .ok (.if_icmp .ne 9, 3) := by decide +kernel
theorem dX5_launch_39 : decode cX5_launch 39 = .ok (.aload_n 0, 1) := by decide +kernel
theorem dX5_launch_40 : decode cX5_launch 40 = .ok (.iconst 2, 1) := by decide +kernel
theorem dX5_launch_41 : decode cX5_launch 41 = .ok (.invokevirtual 45, 3) := by decide +kernel
theorem dX5_launch_44 : decode cX5_launch 44 = .ok (.ireturn, 1) := by decide +kernel
theorem dX5_launch_45 : decode cX5_launch 45 = .ok (.aload_n 0, 1) := by decide +kernel
theorem dX5_launch_46 : decode cX5_launch 46 = .ok (.getfield 19, 3) := by decide +kernel
theorem dX5_launch_49 : decode cX5_launch 49 = .ok (.aload_n 0, 1) := by decide +kernel
theorem dX5_launch_50 : decode cX5_launch 50 = .ok (.getfield 38, 3) := by decide +kernel
theorem dX5_launch_53 : decode cX5_launch 53 = .ok (.iload_n 2, 1) := by decide +kernel
theorem dX5_launch_54 : decode cX5_launch 54 = .ok (.iastore, 1) := by decide +kernel
theorem dX5_launch_55 : decode cX5_launch 55 = .ok (.aload_n 0, 1) := by decide +kernel
theorem dX5_launch_56 : decode cX5_launch 56 = .ok (.getfield 27, 3) := by decide +kernel
theorem dX5_launch_59 : decode cX5_launch 59 = .ok (.getfield 52, 3) := by decide +kernel
theorem dX5_launch_62 : decode cX5_launch 62 = .ok (.aload_n 0, 1) := by decide +kernel
theorem dX5_launch_63 : decode cX5_launch 63 = .ok (.getfield 38, 3) := by decide +kernel
theorem dX5_launch_66 : decode cX5_launch 66 = .ok (.iload_n 1, 1) := by decide +kernel
theorem dX5_launch_67 : decode cX5_launch 67 = .ok (.iastore, 1) := by decide +kernel
theorem dX5_launch_68 : decode cX5_launch 68 = .ok (.aload_n 0, 1) := by decide +kernel
theorem dX5_launch_69 : decode cX5_launch 69 = .ok (.getfield 27, 3) := by decide +kernel
theorem dX5_launch_72 : decode cX5_launch 72 = .ok (.getfield 55, 3) := by decide +kernel
theorem dX5_launch_75 : decode cX5_launch 75 = .ok (.aload_n 0, 1) := by decide +kernel
theorem dX5_launch_76 : decode cX5_launch 76 = .ok (.getfield 38, 3) := by decide +kernel
theorem dX5_launch_79 : decode cX5_launch 79 = .ok (.iconst (-1), 1) := by decide +kernel
theorem dX5_launch_80 : decode cX5_launch 80 = .ok (.iastore, 1) := by decide +kernel
theorem dX5_launch_81 : decode cX5_launch 81 = .ok (.aload_n 0, 1) := by decide +kernel
theorem dX5_launch_82 : decode cX5_launch 82 = .ok (.getfield 27, 3) := by decide +kernel
theorem dX5_launch_85 : decode cX5_launch 85 = .ok (.getfield 58, 3) := by decide +kernel
theorem dX5_launch_88 : decode cX5_launch 88 = .ok (.aload_n 0, 1) := by decide +kernel
theorem dX5_launch_89 : decode cX5_launch 89 = .ok (.getfield 38, 3) := by decide +kernel
theorem dX5_launch_92 : decode cX5_launch 92 = .ok (.iconst 1, 1) := by decide +kernel
theorem dX5_launch_93 : decode cX5_launch 93 = .ok (.iastore, 1) := by decide +kernel
theorem dX5_launch_94 : decode cX5_launch 94 = .ok (.aload_n 0, 1) := by decide +kernel
theorem dX5_launch_95 : decode cX5_launch 95 = .ok (.getfield 27, 3) := by decide +kernel
theorem dX5_launch_98 : decode cX5_launch 98 = .ok (.getfield 61, 3) := by decide +kernel
theorem dX5_launch_101 : decode cX5_launch 101 = .ok (.aload_n 0, 1) := by decide +kernel
theorem dX5_launch_102 : decode cX5_launch 102 = .ok (.getfield 38, 3) := by decide +kernel
theorem dX5_launch_105 : decode cX5_launch 105 = .ok (.iconst 3, 1) := by decide +kernel
theorem dX5_launch_106 : decode cX5_launch 106 = .ok (.iastore, 1) := by decide +kernel
theorem dX5_launch_107 : decode cX5_launch 107 = .ok (.aload_n 0, 1) := by decide +kernel
theorem dX5_launch_108 : decode cX5_launch 108 = .ok (.dup, 1) := by decide +kernel
theorem dX5_launch_109 : decode cX5_launch 109 = .ok (.getfield 38, 3) := by decide +kernel
theorem dX5_launch_112 : decode cX5_launch 112 = .ok (.iconst 1, 1) := by decide +kernel
theorem dX5_launch_113 : decode cX5_launch 113 = .ok (.iadd, 1) := by decide +kernel
theorem dX5_launch_114 : decode cX5_launch 114 = .ok (.putfield 38, 3) := by decide +kernel
theorem dX5_launch_117 : decode cX5_launch 117 = .ok (.aload_n 0, 1) := by decide +kernel
theorem dX5_launch_118 : decode cX5_launch 118 = .ok (.getfield 38, 3) := by decide +kernel
theorem dX5_launch_121 : decode cX5_launch 121 = .ok (.iconst 1, 1) := by decide +kernel
theorem dX5_launch_122 : decode cX5_launch 122 = .ok (.isub, 1) := by decide +kernel
theorem dX5_launch_123 : decode cX5_launch 123 = .ok (.ireturn, 1) := by decide +kernel
set_option maxRecDepth 20000 in
theorem ggX5_isPattern_X5_isFrom : GoodIn wsX5_isPattern wsX5_isFrom := goodIn_r _ [5] (by decide +kernel) (by decide +kernel)
set_option maxRecDepth 20000 in
theorem gX5_isPattern_X5_isFrom : GoodIn wsX5_isPattern (va_wsS RX5 41 yX5_isFrom wsX5_isFrom) := goodIn_app (goodIn_of _ (by decide +kernel)) ggX5_isPattern_X5_isFrom
theorem dX5_isPattern_0 : decode cX5_isPattern 0 = .ok (.iload_n 1, 1) := by decide +kernel
theorem dX5_isPattern_1 : decode cX5_isPattern 1 = .ok (.iconst 0, 1) := by decide +kernel
theorem dX5_isPattern_2 : decode cX5_isPattern 2 = .ok (.getstatic 64, 3) := by decide +kernel
theorem dX5_isPattern_5 : decode cX5_isPattern 5 = .ok (.iload_n 0, 1) := by decide +kernel
theorem dX5_isPattern_6 : decode cX5_isPattern 6 = .ok (.iaload, 1) := by decide +kernel
theorem dX5_isPattern_7 : decode cX5_isPattern 7 = .ok (.iconst 1, 1) := by decide +kernel
theorem dX5_isPattern_8 : decode cX5_isPattern 8 = .ok (.isub, 1) := by decide +kernel
theorem dX5_isPattern_9 : decode cX5_isPattern 9 = .ok (.invokestatic 41, 3) := by decide +kernel
theorem dX5_isPattern_12 : decode cX5_isPattern 12 = .ok (.ifCond .ne 5, 3) := by decide +kernel
theorem dX5_isPattern_15 : decode cX5_isPattern 15 = .ok (.iconst 0, 1) := by decide +kernel
theorem dX5_isPattern_16 : decode cX5_isPattern 16 = .ok (.ireturn, 1) := by decide +kernel
theorem dX5_isPattern_17 : decode cX5_isPattern 17 = .ok (.iload_n 1, 1) := by decide +kernel
theorem dX5_isPattern_18 : decode cX5_isPattern 18 = .ok (.istore_n 2, 1) := by decide +kernel
theorem dX5_isPattern_19 : decode cX5_isPattern 19 = .ok (.iload_n 2, 1) := by decide +kernel
theorem dX5_isPattern_20 : decode cX5_isPattern 20 = .ok (.ifCond .le 21, 3) := by decide +kernel
theorem dX5_isPattern_23 : decode cX5_isPattern 23 = .ok (.iload_n 2, 1) := by decide +kernel
theorem dX5_isPattern_24 : decode cX5_isPattern 24 = .ok (.bipush 10, 2) := by decide +kernel
theorem dX5_isPattern_26 : decode cX5_isPattern 26 = .ok (.irem, 1) := by decide +kernel
theorem dX5_isPattern_27 : decode cX5_isPattern 27 = .ok (.iconst 3, 1) := by decide +kernel
theorem dX5_isPattern_28 : decode cX5_isPattern 28 = .ok (.if_icmp .le 5, 3) := by decide +kernel
theorem dX5_isPattern_31 : decode cX5_isPattern 31 = .ok (.iconst 0, 1) := by decide +kernel
theorem dX5_isPattern_32 : decode cX5_isPattern 32 = .ok (.ireturn, 1) := by decide +kernel
theorem dX5_isPattern_33 : decode cX5_isPattern 33 = .ok (.iload_n 2, 1) := by decide +kernel
theorem dX5_isPattern_34 : decode cX5_isPattern 34 = .ok (.bipush 10, 2) := by decide +kernel
theorem dX5_isPattern_36 : decode cX5_isPattern 36 = .ok (.idiv, 1) := by decide +kernel
theorem dX5_isPattern_37 : decode cX5_isPattern 37 = .ok (.istore_n 2, 1) := by decide +kernel
theorem dX5_isPattern_38 : decode cX5_isPattern 38 = .ok (.goto (-19), 3) := by decide +kernel
theorem dX5_isPattern_41 : decode cX5_isPattern 41 = .ok (.iconst 1, 1) := by decide +kernel
theorem dX5_isPattern_42 : decode cX5_isPattern 42 = .ok (.ireturn, 1) := by decide +kernel
set_option maxRecDepth 20000 in
theorem ggX5_paddle_X5_isBoat : GoodIn wsX5_paddle wsX5_isBoat := goodIn_r _ [7, 8, 9, 10, 6, 11, 20, 21, 22, 23, 24, 25, 26, 27, 28] (by decide +kernel) (by decide +kernel)
set_option maxRecDepth 20000 in
theorem gX5_paddle_X5_isBoat : GoodIn wsX5_paddle (wsV RX5 67 RX5 yX5_isBoat wsX5_isBoat) := goodIn_app (goodIn_of _ (by decide +kernel)) ggX5_paddle_X5_isBoat
set_option maxRecDepth 20000 in
theorem ggX5_paddle_X5_no : GoodIn wsX5_paddle wsX5_no := goodIn_r _ [15, 1, 20, 21, 22, 23, 24, 25, 26, 27, 28] (by decide +kernel) (by decide +kernel)
set_option maxRecDepth 20000 in
theorem gX5_paddle_X5_no : GoodIn wsX5_paddle (wsV RX5 45 RX5 yX5_no wsX5_no) := goodIn_app (goodIn_of _ (by decide +kernel)) ggX5_paddle_X5_no
set_option maxRecDepth 20000 in
theorem ggX5_paddle_X5_isFrom : GoodIn wsX5_paddle wsX5_isFrom := goodIn_r _ [11] (by decide +kernel) (by decide +kernel)
set_option maxRecDepth 20000 in
theorem gX5_paddle_X5_isFrom : GoodIn wsX5_paddle (va_wsS RX5 41 yX5_isFrom wsX5_isFrom) := goodIn_app (goodIn_of _ (by decide +kernel)) ggX5_paddle_X5_isFrom
set_option maxRecDepth 20000 in
theorem ggX5_paddle_X5_isPattern : GoodIn wsX5_paddle wsX5_isPattern := goodIn_r _ [18, 19, 9, 10, 6, 11] (by decide +kernel) (by decide +kernel)
set_option maxRecDepth 20000 in
theorem gX5_paddle_X5_isPattern : GoodIn wsX5_paddle (va_wsS RX5 71 yX5_isPattern wsX5_isPattern) := goodIn_app (goodIn_of _ (by decide +kernel)) ggX5_paddle_X5_isPattern
theorem dX5_paddle_0 : decode cX5_paddle 0 = .ok (.aload_n 0, 1) := by decide +kernel
theorem dX5_paddle_1 : decode cX5_paddle 1 = .ok (.iconst 0, 1) := by decide +kernel
theorem dX5_paddle_2 : decode cX5_paddle 2 = .ok (.putfield 34, 3) := by decide +kernel
theorem dX5_paddle_5 : decode cX5_paddle 5 = .ok (.aload_n 0, 1) := by decide +kernel
theorem dX5_paddle_6 : decode cX5_paddle 6 = .ok (.iload_n 1, 1) := by decide +kernel
theorem dX5_paddle_7 : decode cX5_paddle 7 = .ok (.invokevirtual 67, 3) := by decide +kernel
theorem dX5_paddle_10 : decode cX5_paddle 10 = .ok (.ifCond .ne 9, 3) := by decide +kernel
theorem dX5_paddle_13 : decode cX5_paddle 13 = .ok (.aload_n 0, 1) := by decide +kernel
theorem dX5_paddle_14 : decode cX5_paddle 14 = .ok (.iconst 1, 1) := by decide +kernel
theorem dX5_paddle_15 : decode cX5_paddle 15 = .ok (.invokevirtual 45, 3) := by decide +kernel
theorem dX5_paddle_18 : decode cX5_paddle 18 = .ok (.ireturn, 1) := by decide +kernel
theorem dX5_paddle_19 : decode cX5_paddle 19 = .ok (.iload_n 2, 1) := by decide +kernel
theorem dX5_paddle_20 : decode cX5_paddle 20 = .ok (.iconst 1, 1) := by decide +kernel
theorem dX5_paddle_21 : decode cX5_paddle 21 = .ok (.bipush 6, 2) := by decide +kernel
theorem dX5_paddle_23 : decode cX5_paddle 23 = .ok (.invokestatic 41, 3) := by decide +kernel
theorem dX5_paddle_26 : decode cX5_paddle 26 = .ok (.ifCond .eq 11, 3) := by decide +kernel
theorem dX5_paddle_29 : decode cX5_paddle 29 = .ok (.iload_n 2, 1) := by decide +kernel
theorem dX5_paddle_30 : decode cX5_paddle 30 = .ok (.iload_n 3, 1) := by decide +kernel
theorem dX5_paddle_31 : decode cX5_paddle 31 = .ok (.invokestatic 71, 3) := by decide +kernel
theorem dX5_paddle_34 : decode cX5_paddle 34 = .ok (.ifCond .ne 9, 3) := by decide +kernel
theorem dX5_paddle_37 : decode cX5_paddle 37 = .ok (.aload_n 0, 1) := by decide +kernel
theorem dX5_paddle_38 : decode cX5_paddle 38 = .ok (.iconst 2, 1) := by decide +kernel
theorem dX5_paddle_39 : decode cX5_paddle 39 = .ok (.invokevirtual 45, 3) := by decide +kernel
theorem dX5_paddle_42 : decode cX5_paddle 42 = .ok (.ireturn, 1) := by decide +kernel
theorem dX5_paddle_43 : decode cX5_paddle 43 = .ok (.aload_n 0, 1) := by decide +kernel
theorem dX5_paddle_44 : decode cX5_paddle 44 = .ok (.getfield 27, 3) := by decide +kernel
theorem dX5_paddle_47 : decode cX5_paddle 47 = .ok (.getfield 58, 3) := by decide +kernel
theorem dX5_paddle_50 : decode cX5_paddle 50 = .ok (.iload_n 1, 1) := by decide +kernel
theorem dX5_paddle_51 : decode cX5_paddle 51 = .ok (.iaload, 1) := by decide +kernel
theorem dX5_paddle_52 : decode cX5_paddle 52 = .ok (.istore 4, 2) := by decide +kernel
theorem dX5_paddle_54 : decode cX5_paddle 54 = .ok (.aload_n 0, 1) := by decide +kernel
theorem dX5_paddle_55 : decode cX5_paddle 55 = .ok (.getfield 27, 3) := by decide +kernel
theorem dX5_paddle_58 : decode cX5_paddle 58 = .ok (.getfield 58, 3) := by decide +kernel
theorem dX5_paddle_61 : decode cX5_paddle 61 = .ok (.iload_n 1, 1) := by decide +kernel
theorem dX5_paddle_62 : decode cX5_paddle 62 = .ok (.iload_n 2, 1) := by decide +kernel
theorem dX5_paddle_63 : decode cX5_paddle 63 = .ok (.iastore, 1) := by decide +kernel
theorem dX5_paddle_64 : decode cX5_paddle 64 = .ok (.aload_n 0, 1) := by decide +kernel
theorem dX5_paddle_65 : decode cX5_paddle 65 = .ok (.getfield 27, 3) := by decide +kernel
theorem dX5_paddle_68 : decode cX5_paddle 68 = .ok (.getfield 61, 3) := by decide +kernel
theorem dX5_paddle_71 : decode cX5_paddle 71 = .ok (.iload_n 1, 1) := by decide +kernel
theorem dX5_paddle_72 : decode cX5_paddle 72 = .ok (.iload_n 3, 1) := by decide +kernel
theorem dX5_paddle_73 : decode cX5_paddle 73 = .ok (.iastore, 1) := by decide +kernel
theorem dX5_paddle_74 : decode cX5_paddle 74 = .ok (.iload 4, 2) := by decide +kernel
theorem dX5_paddle_76 : decode cX5_paddle 76 = .ok (.ireturn, 1) := by decide +kernel
set_option maxRecDepth 20000 in
theorem ggX5_tar_X5_isBoat : GoodIn wsX5_tar wsX5_isBoat := goodIn_r _ [7, 8, 9, 10, 6, 11, 22, 23, 24, 25, 26, 27, 28, 29, 30] (by decide +kernel) (by decide +kernel)
set_option maxRecDepth 20000 in
theorem gX5_tar_X5_isBoat : GoodIn wsX5_tar (wsV RX5 67 RX5 yX5_isBoat wsX5_isBoat) := goodIn_app (goodIn_of _ (by decide +kernel)) ggX5_tar_X5_isBoat
set_option maxRecDepth 20000 in
theorem ggX5_tar_X5_no : GoodIn wsX5_tar wsX5_no := goodIn_r _ [15, 1, 22, 23, 24, 25, 26, 27, 28, 29, 30] (by decide +kernel) (by decide +kernel)
set_option maxRecDepth 20000 in
theorem gX5_tar_X5_no : GoodIn wsX5_tar (wsV RX5 45 RX5 yX5_no wsX5_no) := goodIn_app (goodIn_of _ (by decide +kernel)) ggX5_tar_X5_no
set_option maxRecDepth 20000 in
theorem ggX5_tar_X4_isIn : GoodIn wsX5_tar wsX4_isIn := goodIn_r _ [20, 21, 31, 32, 33, 34, 35, 36, 37, 38, 39, 40, 41, 42] (by decide +kernel) (by decide +kernel)
set_option maxRecDepth 20000 in
theorem gX5_tar_X4_isIn : GoodIn wsX5_tar (wsV RX5 75 RX4 yX4_isIn wsX4_isIn) := goodIn_app (goodIn_of _ (by decide +kernel)) ggX5_tar_X4_isIn
theorem dX5_tar_0 : decode cX5_tar 0 = .ok (.aload_n 0, 1) := by decide +kernel
theorem dX5_tar_1 : decode cX5_tar 1 = .ok (.iconst 0, 1) := by decide +kernel
theorem dX5_tar_2 : decode cX5_tar 2 = .ok (.putfield 34, 3) := by decide +kernel
theorem dX5_tar_5 : decode cX5_tar 5 = .ok (.aload_n 0, 1) := by decide +kernel
theorem dX5_tar_6 : decode cX5_tar 6 = .ok (.iload_n 1, 1) := by decide +kernel
theorem dX5_tar_7 : decode cX5_tar 7 = .ok (.invokevirtual 67, 3) := by decide +kernel
theorem dX5_tar_10 : decode cX5_tar 10 = .ok (.ifCond .ne 9, 3) := by decide +kernel
theorem dX5_tar_13 : decode cX5_tar 13 = .ok (.aload_n 0, 1) := by decide +kernel
theorem dX5_tar_14 : decode cX5_tar 14 = .ok (.iconst 1, 1) := by decide +kernel
theorem dX5_tar_15 : decode cX5_tar 15 = .ok (.invokevirtual 45, 3) := by decide +kernel
theorem dX5_tar_18 : decode cX5_tar 18 = .ok (.ireturn, 1) := by decide +kernel
theorem dX5_tar_19 : decode cX5_tar 19 = .ok (.aload_n 0, 1) := by decide +kernel
theorem dX5_tar_20 : decode cX5_tar 20 = .ok (.getfield 27, 3) := by decide +kernel
theorem dX5_tar_23 : decode cX5_tar 23 = .ok (.iload_n 1, 1) := by decide +kernel
theorem dX5_tar_24 : decode cX5_tar 24 = .ok (.invokevirtual 75, 3) := by decide +kernel
theorem dX5_tar_27 : decode cX5_tar 27 = .ok (.ifCond .eq 9, 3) := by decide +kernel
theorem dX5_tar_30 : decode cX5_tar 30 = .ok (.aload_n 0, 1) := by decide +kernel
theorem dX5_tar_31 : decode cX5_tar 31 = .ok (.iconst 2, 1) := by decide +kernel
theorem dX5_tar_32 : decode cX5_tar 32 = .ok (.invokevirtual 45, 3) := by decide +kernel
theorem dX5_tar_35 : decode cX5_tar 35 = .ok (.ireturn, 1) := by decide +kernel
theorem dX5_tar_36 : decode cX5_tar 36 = .ok (.aload_n 0, 1) := by decide +kernel
theorem dX5_tar_37 : decode cX5_tar 37 = .ok (.getfield 27, 3) := by decide +kernel
theorem dX5_tar_40 : decode cX5_tar 40 = .ok (.getfield 78, 3) := by decide +kernel
theorem dX5_tar_43 : decode cX5_tar 43 = .ok (.iload_n 1, 1) := by decide +kernel
theorem dX5_tar_44 : decode cX5_tar 44 = .ok (.iaload, 1) := by decide +kernel
theorem dX5_tar_45 : decode cX5_tar 45 = .ok (.istore_n 2, 1) := by decide +kernel
theorem dX5_tar_46 : decode cX5_tar 46 = .ok (.aload_n 0, 1) := by decide +kernel
theorem dX5_tar_47 : decode cX5_tar 47 = .ok (.getfield 27, 3) := by decide +kernel
theorem dX5_tar_50 : decode cX5_tar 50 = .ok (.getfield 78, 3) := by decide +kernel
theorem dX5_tar_53 : decode cX5_tar 53 = .ok (.iload_n 1, 1) := by decide +kernel
theorem dX5_tar_54 : decode cX5_tar 54 = .ok (.iconst 0, 1) := by decide +kernel
theorem dX5_tar_55 : decode cX5_tar 55 = .ok (.iastore, 1) := by decide +kernel
theorem dX5_tar_56 : decode cX5_tar 56 = .ok (.aload_n 0, 1) := by decide +kernel
theorem dX5_tar_57 : decode cX5_tar 57 = .ok (.getfield 27, 3) := by decide +kernel
theorem dX5_tar_60 : decode cX5_tar 60 = .ok (.getfield 81, 3) := by decide +kernel
theorem dX5_tar_63 : decode cX5_tar 63 = .ok (.iload_n 1, 1) := by decide +kernel
theorem dX5_tar_64 : decode cX5_tar 64 = .ok (.dup2, 1) := by decide +kernel
theorem dX5_tar_65 : decode cX5_tar 65 = .ok (.iaload, 1) := by decide +kernel
theorem dX5_tar_66 : decode cX5_tar 66 = .ok (.iconst 4, 1) := by decide +kernel
theorem dX5_tar_67 : decode cX5_tar 67 = .ok (.iadd, 1) := by decide +kernel
theorem dX5_tar_68 : decode cX5_tar 68 = .ok (.iastore, 1) := by decide +kernel
theorem dX5_tar_69 : decode cX5_tar 69 = .ok (.iload_n 2, 1) := by decide +kernel
theorem dX5_tar_70 : decode cX5_tar 70 = .ok (.ireturn, 1) := by decide +kernel
set_option maxRecDepth 20000 in
theorem ggX5_boatTold_X4_isIn : GoodIn wsX5_boatTold wsX4_isIn := goodIn_r _ [7, 8, 24, 25, 26, 27, 28, 29, 30, 31, 32, 33, 34, 35] (by decide +kernel) (by decide +kernel)
set_option maxRecDepth 20000 in
theorem gX5_boatTold_X4_isIn : GoodIn wsX5_boatTold (wsV RX5 75 RX4 yX4_isIn wsX4_isIn) := goodIn_app (goodIn_of _ (by decide +kernel)) ggX5_boatTold_X4_isIn
set_option maxRecDepth 20000 in
theorem ggX5_boatTold_X4_time : GoodIn wsX5_boatTold wsX4_time := goodIn_r _ [12, 8, 13, 14, 4, 5, 6, 7, 24, 25, 26, 27, 28, 29, 30, 31, 32, 33, 34, 35] (by decide +kernel) (by decide +kernel)
set_option maxRecDepth 20000 in
theorem gX5_boatTold_X4_time : GoodIn wsX5_boatTold (wsV RX5 90 RX4 yX4_time wsX4_time) := goodIn_app (goodIn_of _ (by decide +kernel)) ggX5_boatTold_X4_time
theorem dX5_boatTold_0 : decode cX5_boatTold 0 = .ok (.bipush 9, 2) := by decide +kernel
theorem dX5_boatTold_2 : decode cX5_boatTold 2 = .ok (.newarray .int, 2) := by decide +kernel
theorem dX5_boatTold_4 : decode cX5_boatTold 4 = .ok (.dup, 1) := by decide +kernel
theorem dX5_boatTold_5 : decode cX5_boatTold 5 = .ok (.iconst 0, 1) := by decide +kernel
theorem dX5_boatTold_6 : decode cX5_boatTold 6 = .ok (.aload_n 0, 1) := by decide +kernel
theorem dX5_boatTold_7 : decode cX5_boatTold 7 = .ok (.getfield 27, 3) := by decide +kernel
theorem dX5_boatTold_10 : decode cX5_boatTold 10 = .ok (.getfield 84, 3) := by decide +kernel
theorem dX5_boatTold_13 : decode cX5_boatTold 13 = .ok (.iload_n 1, 1) := by decide +kernel
theorem dX5_boatTold_14 : decode cX5_boatTold 14 = .ok (.iaload, 1) := by decide +kernel
theorem dX5_boatTold_15 : decode cX5_boatTold 15 = .ok (.iastore, 1) := by decide +kernel
theorem dX5_boatTold_16 : decode cX5_boatTold 16 = .ok (.dup, 1) := by decide +kernel
theorem dX5_boatTold_17 : decode cX5_boatTold 17 = .ok (.iconst 1, 1) := by decide +kernel
theorem dX5_boatTold_18 : decode cX5_boatTold 18 = .ok (.aload_n 0, 1) := by decide +kernel
theorem dX5_boatTold_19 : decode cX5_boatTold 19 = .ok (.getfield 27, 3) := by decide +kernel
theorem dX5_boatTold_22 : decode cX5_boatTold 22 = .ok (.getfield 52, 3) := by decide +kernel
theorem dX5_boatTold_25 : decode cX5_boatTold 25 = .ok (.iload_n 1, 1) := by decide +kernel
theorem dX5_boatTold_26 : decode cX5_boatTold 26 = .ok (.iaload, 1) := by decide +kernel
theorem dX5_boatTold_27 : decode cX5_boatTold 27 = .ok (.iastore, 1) := by decide +kernel
theorem dX5_boatTold_28 : decode cX5_boatTold 28 = .ok (.dup, 1) := by decide +kernel
theorem dX5_boatTold_29 : decode cX5_boatTold 29 = .ok (.iconst 2, 1) := by decide +kernel
theorem dX5_boatTold_30 : decode cX5_boatTold 30 = .ok (.aload_n 0, 1) := by decide +kernel
theorem dX5_boatTold_31 : decode cX5_boatTold 31 = .ok (.getfield 27, 3) := by decide +kernel
theorem dX5_boatTold_34 : decode cX5_boatTold 34 = .ok (.getfield 87, 3) := by decide +kernel
theorem dX5_boatTold_37 : decode cX5_boatTold 37 = .ok (.iload_n 1, 1) := by decide +kernel
theorem dX5_boatTold_38 : decode cX5_boatTold 38 = .ok (.iaload, 1) := by decide +kernel
theorem dX5_boatTold_39 : decode cX5_boatTold 39 = .ok (.iastore, 1) := by decide +kernel
theorem dX5_boatTold_40 : decode cX5_boatTold 40 = .ok (.dup, 1) := by decide +kernel
theorem dX5_boatTold_41 : decode cX5_boatTold 41 = .ok (.iconst 3, 1) := by decide +kernel
theorem dX5_boatTold_42 : decode cX5_boatTold 42 = .ok (.aload_n 0, 1) := by decide +kernel
theorem dX5_boatTold_43 : decode cX5_boatTold 43 = .ok (.getfield 27, 3) := by decide +kernel
theorem dX5_boatTold_46 : decode cX5_boatTold 46 = .ok (.getfield 78, 3) := by decide +kernel
theorem dX5_boatTold_49 : decode cX5_boatTold 49 = .ok (.iload_n 1, 1) := by decide +kernel
theorem dX5_boatTold_50 : decode cX5_boatTold 50 = .ok (.iaload, 1) := by decide +kernel
theorem dX5_boatTold_51 : decode cX5_boatTold 51 = .ok (.iastore, 1) := by decide +kernel
theorem dX5_boatTold_52 : decode cX5_boatTold 52 = .ok (.dup, 1) := by decide +kernel
theorem dX5_boatTold_53 : decode cX5_boatTold 53 = .ok (.iconst 4, 1) := by decide +kernel
theorem dX5_boatTold_54 : decode cX5_boatTold 54 = .ok (.aload_n 0, 1) := by decide +kernel
theorem dX5_boatTold_55 : decode cX5_boatTold 55 = .ok (.getfield 27, 3) := by decide +kernel
theorem dX5_boatTold_58 : decode cX5_boatTold 58 = .ok (.getfield 81, 3) := by decide +kernel
theorem dX5_boatTold_61 : decode cX5_boatTold 61 = .ok (.iload_n 1, 1) := by decide +kernel
theorem dX5_boatTold_62 : decode cX5_boatTold 62 = .ok (.iaload, 1) := by decide +kernel
theorem dX5_boatTold_63 : decode cX5_boatTold 63 = .ok (.iastore, 1) := by decide +kernel
theorem dX5_boatTold_64 : decode cX5_boatTold 64 = .ok (.dup, 1) := by decide +kernel
theorem dX5_boatTold_65 : decode cX5_boatTold 65 = .ok (.iconst 5, 1) := by decide +kernel
theorem dX5_boatTold_66 : decode cX5_boatTold 66 = .ok (.aload_n 0, 1) := by decide +kernel
theorem dX5_boatTold_67 : decode cX5_boatTold 67 = .ok (.getfield 27, 3) := by decide +kernel
theorem dX5_boatTold_70 : decode cX5_boatTold 70 = .ok (.iload_n 1, 1) := by decide +kernel
theorem dX5_boatTold_71 : decode cX5_boatTold 71 = .ok (.invokevirtual 75, 3) := by decide +kernel
theorem dX5_boatTold_74 : decode cX5_boatTold 74 = .ok (.ifCond .eq 7, 3) := by decide +kernel
theorem dX5_boatTold_77 : decode cX5_boatTold 77 = .ok (.iconst 1, 1) := by decide +kernel
theorem dX5_boatTold_78 : decode cX5_boatTold 78 = .ok (.goto 4, 3) := by decide +kernel
theorem dX5_boatTold_81 : decode cX5_boatTold 81 = .ok (.iconst 0, 1) := by decide +kernel
theorem dX5_boatTold_82 : decode cX5_boatTold 82 = .ok (.iastore, 1) := by decide +kernel
theorem dX5_boatTold_83 : decode cX5_boatTold 83 = .ok (.dup, 1) := by decide +kernel
theorem dX5_boatTold_84 : decode cX5_boatTold 84 = .ok (.bipush 6, 2) := by decide +kernel
theorem dX5_boatTold_86 : decode cX5_boatTold 86 = .ok (.aload_n 0, 1) := by decide +kernel
theorem dX5_boatTold_87 : decode cX5_boatTold 87 = .ok (.getfield 27, 3) := by decide +kernel
theorem dX5_boatTold_90 : decode cX5_boatTold 90 = .ok (.iload_n 1, 1) := by decide +kernel
theorem dX5_boatTold_91 : decode cX5_boatTold 91 = .ok (.invokevirtual 90, 3) := by decide +kernel
theorem dX5_boatTold_94 : decode cX5_boatTold 94 = .ok (.iastore, 1) := by decide +kernel
theorem dX5_boatTold_95 : decode cX5_boatTold 95 = .ok (.dup, 1) := by decide +kernel
theorem dX5_boatTold_96 : decode cX5_boatTold 96 = .ok (.bipush 7, 2) := by decide +kernel
theorem dX5_boatTold_98 : decode cX5_boatTold 98 = .ok (.aload_n 0, 1) := by decide +kernel
theorem dX5_boatTold_99 : decode cX5_boatTold 99 = .ok (.getfield 27, 3) := by decide +kernel
theorem dX5_boatTold_102 : decode cX5_boatTold 102 = .ok (.getfield 93, 3) := by decide +kernel
theorem dX5_boatTold_105 : decode cX5_boatTold 105 = .ok (.iload_n 1, 1) := by decide +kernel
theorem dX5_boatTold_106 : decode cX5_boatTold 106 = .ok (.iaload, 1) := by decide +kernel
theorem dX5_boatTold_107 : decode cX5_boatTold 107 = .ok (.iastore, 1) := by decide +kernel
theorem dX5_boatTold_108 : decode cX5_boatTold 108 = .ok (.dup, 1) := by decide +kernel
theorem dX5_boatTold_109 : decode cX5_boatTold 109 = .ok (.bipush 8, 2) := by decide +kernel
theorem dX5_boatTold_111 : decode cX5_boatTold 111 = .ok (.aload_n 0, 1) := by decide +kernel
theorem dX5_boatTold_112 : decode cX5_boatTold 112 = .ok (.getfield 27, 3) := by decide +kernel
theorem dX5_boatTold_115 : decode cX5_boatTold 115 = .ok (.getfield 96, 3) := by decide +kernel
theorem dX5_boatTold_118 : decode cX5_boatTold 118 = .ok (.iload_n 1, 1) := by decide +kernel
theorem dX5_boatTold_119 : decode cX5_boatTold 119 = .ok (.iaload, 1) := by decide +kernel
theorem dX5_boatTold_120 : decode cX5_boatTold 120 = .ok (.iastore, 1) := by decide +kernel
theorem dX5_boatTold_121 : decode cX5_boatTold 121 = .ok (.astore_n 3, 1) := by decide +kernel
theorem dX5_boatTold_122 : decode cX5_boatTold 122 = .ok (.aload_n 3, 1) := by decide +kernel
theorem dX5_boatTold_123 : decode cX5_boatTold 123 = .ok (.iload_n 2, 1) := by decide +kernel
theorem dX5_boatTold_124 : decode cX5_boatTold 124 = .ok (.iaload, 1) := by decide +kernel
theorem dX5_boatTold_125 : decode cX5_boatTold 125 = .ok (.ireturn, 1) := by decide +kernel
set_option maxRecDepth 20000 in
theorem ggX5_boat_X5_isBoat : GoodIn wsX5_boat wsX5_isBoat := goodIn_r _ [6, 7, 8, 9, 5, 10, 33, 34, 35, 36, 37, 38, 39, 40, 41] (by decide +kernel) (by decide +kernel)
set_option maxRecDepth 20000 in
theorem gX5_boat_X5_isBoat : GoodIn wsX5_boat (wsV RX5 67 RX5 yX5_isBoat wsX5_isBoat) := goodIn_app (goodIn_of _ (by decide +kernel)) ggX5_boat_X5_isBoat
set_option maxRecDepth 20000 in
theorem ggX5_boat_X5_isFrom : GoodIn wsX5_boat wsX5_isFrom := goodIn_r _ [10] (by decide +kernel) (by decide +kernel)
set_option maxRecDepth 20000 in
theorem gX5_boat_X5_isFrom : GoodIn wsX5_boat (va_wsS RX5 41 yX5_isFrom wsX5_isFrom) := goodIn_app (goodIn_of _ (by decide +kernel)) ggX5_boat_X5_isFrom
set_option maxRecDepth 20000 in
theorem ggX5_boat_X5_boatTold : GoodIn wsX5_boat wsX5_boatTold := goodIn_r _ [14, 15, 16, 17, 18, 19, 20, 21, 22, 23, 24, 25, 26, 27, 28, 33, 34, 35, 36, 37, 38, 39, 40, 41, 42, 43, 44, 45, 46, 47, 48, 49, 50, 51, 52, 53] (by decide +kernel) (by decide +kernel)
set_option maxRecDepth 20000 in
theorem gX5_boat_X5_boatTold : GoodIn wsX5_boat (wsV RX5 99 RX5 yX5_boatTold wsX5_boatTold) := goodIn_app (goodIn_of _ (by decide +kernel)) ggX5_boat_X5_boatTold
set_option maxRecDepth 20000 in
theorem ggX5_boat_X5_no : GoodIn wsX5_boat wsX5_no := goodIn_r _ [32, 1, 33, 34, 35, 36, 37, 38, 39, 40, 41] (by decide +kernel) (by decide +kernel)
set_option maxRecDepth 20000 in
theorem gX5_boat_X5_no : GoodIn wsX5_boat (wsV RX5 45 RX5 yX5_no wsX5_no) := goodIn_app (goodIn_of _ (by decide +kernel)) ggX5_boat_X5_no
theorem dX5_boat_0 : decode cX5_boat 0 = .ok (.aload_n 0, 1) := by decide +kernel
theorem dX5_boat_1 : decode cX5_boat 1 = .ok (.iconst 0, 1) := by decide +kernel
theorem dX5_boat_2 : decode cX5_boat 2 = .ok (.putfield 34, 3) := by decide +kernel
theorem dX5_boat_5 : decode cX5_boat 5 = .ok (.aload_n 0, 1) := by decide +kernel
theorem dX5_boat_6 : decode cX5_boat 6 = .ok (.iload_n 1, 1) := by decide +kernel
theorem dX5_boat_7 : decode cX5_boat 7 = .ok (.invokevirtual 67, 3) := by decide +kernel
theorem dX5_boat_10 : decode cX5_boat 10 = .ok (.ifCond .eq 22, 3) := by decide +kernel
theorem dX5_boat_13 : decode cX5_boat 13 = .ok (.iload_n 2, 1) := by decide +kernel
theorem dX5_boat_14 : decode cX5_boat 14 = .ok (.iconst 0, 1) := by decide +kernel
theorem dX5_boat_15 : decode cX5_boat 15 = .ok (.bipush 8, 2) := by decide +kernel
theorem dX5_boat_17 : decode cX5_boat 17 = .ok (.invokestatic 41, 3) := by decide +kernel
theorem dX5_boat_20 : decode cX5_boat 20 = .ok (.ifCond .eq 12, 3) := by decide +kernel
theorem dX5_boat_23 : decode cX5_boat 23 = .ok (.aload_n 0, 1) := by decide +kernel
theorem dX5_boat_24 : decode cX5_boat 24 = .ok (.iload_n 1, 1) := by decide +kernel
theorem dX5_boat_25 : decode cX5_boat 25 = .ok (.iload_n 2, 1) := by decide +kernel
theorem dX5_boat_26 : decode cX5_boat 26 = .ok (.invokevirtual 99, 3) := by decide +kernel
theorem dX5_boat_29 : decode cX5_boat 29 = .ok (.goto 8, 3) := by decide +kernel
theorem dX5_boat_32 : decode cX5_boat 32 = .ok (.aload_n 0, 1) := by decide +kernel
theorem dX5_boat_33 : decode cX5_boat 33 = .ok (.iconst 1, 1) := by decide +kernel
theorem dX5_boat_34 : decode cX5_boat 34 = .ok (.invokevirtual 45, 3) := by decide +kernel
theorem dX5_boat_37 : decode cX5_boat 37 = .ok (.ireturn, 1) := by decide +kernel
set_option maxRecDepth 20000 in
theorem ggX5_count_X5_isFrom : GoodIn wsX5_count wsX5_isFrom := goodIn_r _ [6] (by decide +kernel) (by decide +kernel)
set_option maxRecDepth 20000 in
theorem gX5_count_X5_isFrom : GoodIn wsX5_count (va_wsS RX5 41 yX5_isFrom wsX5_isFrom) := goodIn_app (goodIn_of _ (by decide +kernel)) ggX5_count_X5_isFrom
set_option maxRecDepth 20000 in
theorem ggX5_count_X4_counted : GoodIn wsX5_count wsX4_counted := goodIn_r _ [11, 12, 13, 14, 15, 16, 17, 18, 19, 10, 20, 21, 22, 23, 24, 25, 26, 27, 28, 29, 43, 44, 45, 46, 47, 48, 49, 50, 51, 52, 53, 54, 34, 35, 36, 37, 38, 39, 40, 41, 42] (by decide +kernel) (by decide +kernel)
set_option maxRecDepth 20000 in
theorem gX5_count_X4_counted : GoodIn wsX5_count (wsV RX5 103 RX4 yX4_counted wsX4_counted) := goodIn_app (goodIn_of _ (by decide +kernel)) ggX5_count_X4_counted
set_option maxRecDepth 20000 in
theorem ggX5_count_X5_no : GoodIn wsX5_count wsX5_no := goodIn_r _ [33, 1, 34, 35, 36, 37, 38, 39, 40, 41, 42] (by decide +kernel) (by decide +kernel)
set_option maxRecDepth 20000 in
theorem gX5_count_X5_no : GoodIn wsX5_count (wsV RX5 45 RX5 yX5_no wsX5_no) := goodIn_app (goodIn_of _ (by decide +kernel)) ggX5_count_X5_no
theorem dX5_count_0 : decode cX5_count 0 = .ok (.aload_n 0, 1) := by decide +kernel
theorem dX5_count_1 : decode cX5_count 1 = .ok (.iconst 0, 1) := by decide +kernel
theorem dX5_count_2 : decode cX5_count 2 = .ok (.putfield 34, 3) := by decide +kernel
theorem dX5_count_5 : decode cX5_count 5 = .ok (.iload_n 1, 1) := by decide +kernel
theorem dX5_count_6 : decode cX5_count 6 = .ok (.iconst 0, 1) := by decide +kernel
theorem dX5_count_7 : decode cX5_count 7 = .ok (.bipush 6, 2) := by decide +kernel
theorem dX5_count_9 : decode cX5_count 9 = .ok (.invokestatic 41, 3) := by decide +kernel
theorem dX5_count_12 : decode cX5_count 12 = .ok (.ifCond .eq 14, 3) := by decide +kernel
theorem dX5_count_15 : decode cX5_count 15 = .ok (.aload_n 0, 1) := by decide +kernel
theorem dX5_count_16 : decode cX5_count 16 = .ok (.getfield 27, 3) := by decide +kernel
theorem dX5_count_19 : decode cX5_count 19 = .ok (.iload_n 1, 1) := by decide +kernel
theorem dX5_count_20 : decode cX5_count 20 = .ok (.invokevirtual 103, 3) := by decide +kernel
theorem dX5_count_23 : decode cX5_count 23 = .ok (.goto 8, 3) := by decide +kernel
theorem dX5_count_26 : decode cX5_count 26 = .ok (.aload_n 0, 1) := by decide +kernel
theorem dX5_count_27 : decode cX5_count 27 = .ok (.iconst 1, 1) := by decide +kernel
theorem dX5_count_28 : decode cX5_count 28 = .ok (.invokevirtual 45, 3) := by decide +kernel
theorem dX5_count_31 : decode cX5_count 31 = .ok (.ireturn, 1) := by decide +kernel
set_option maxRecDepth 20000 in
theorem ggX5_next_X5_isFrom : GoodIn wsX5_next wsX5_isFrom := goodIn_r _ [11] (by decide +kernel) (by decide +kernel)
set_option maxRecDepth 20000 in
theorem gX5_next_X5_isFrom : GoodIn wsX5_next (va_wsS RX5 41 yX5_isFrom wsX5_isFrom) := goodIn_app (goodIn_of _ (by decide +kernel)) ggX5_next_X5_isFrom
set_option maxRecDepth 20000 in
theorem ggX5_next_X5_no : GoodIn wsX5_next wsX5_no := goodIn_r _ [15, 1, 16, 17, 18, 19, 20, 21, 22, 23, 24] (by decide +kernel) (by decide +kernel)
set_option maxRecDepth 20000 in
theorem gX5_next_X5_no : GoodIn wsX5_next (wsV RX5 45 RX5 yX5_no wsX5_no) := goodIn_app (goodIn_of _ (by decide +kernel)) ggX5_next_X5_no
theorem dX5_next_0 : decode cX5_next 0 = .ok (.aload_n 0, 1) := by decide +kernel
theorem dX5_next_1 : decode cX5_next 1 = .ok (.iconst 0, 1) := by decide +kernel
theorem dX5_next_2 : decode cX5_next 2 = .ok (.putfield 34, 3) := by decide +kernel
theorem dX5_next_5 : decode cX5_next 5 = .ok (.iload_n 1, 1) := by decide +kernel
theorem dX5_next_6 : decode cX5_next 6 = .ok (.iconst 0, 1) := by decide +kernel
theorem dX5_next_7 : decode cX5_next 7 = .ok (.sipush 200, 3) := by decide +kernel
theorem dX5_next_10 : decode cX5_next 10 = .ok (.invokestatic 41, 3) := by decide +kernel
theorem dX5_next_13 : decode cX5_next 13 = .ok (.ifCond .ne 9, 3) := by decide +kernel
theorem dX5_next_16 : decode cX5_next 16 = .ok (.aload_n 0, 1) := by decide +kernel
theorem dX5_next_17 : decode cX5_next 17 = .ok (.iconst 1, 1) := by decide +kernel
theorem dX5_next_18 : decode cX5_next 18 = .ok (.invokevirtual 45, 3) := by decide +kernel
theorem dX5_next_21 : decode cX5_next 21 = .ok (.ireturn, 1) := by decide +kernel
theorem dX5_next_22 : decode cX5_next 22 = .ok (.sipush 200, 3) := by decide +kernel
theorem dX5_next_25 : decode cX5_next 25 = .ok (.istore_n 2, 1) := by decide +kernel
theorem dX5_next_26 : decode cX5_next 26 = .ok (.iconst 0, 1) := by decide +kernel
theorem dX5_next_27 : decode cX5_next 27 = .ok (.istore_n 3, 1) := by decide +kernel
theorem dX5_next_28 : decode cX5_next 28 = .ok (.iload_n 3, 1) := by decide +kernel
theorem dX5_next_29 : decode cX5_next 29 = .ok (.aload_n 0, 1) := by decide +kernel
theorem dX5_next_30 : decode cX5_next 30 = .ok (.getfield 49, 3) := by decide +kernel
theorem dX5_next_33 : decode cX5_next 33 = .ok (.if_icmp .ge 30, 3) := by decide +kernel
theorem dX5_next_36 : decode cX5_next 36 = .ok (.aload_n 0, 1) := by decide +kernel
theorem dX5_next_37 : decode cX5_next 37 = .ok (.getfield 13, 3) := by decide +kernel
theorem dX5_next_40 : decode cX5_next 40 = .ok (.iload_n 3, 1) := by decide +kernel
theorem dX5_next_41 : decode cX5_next 41 = .ok (.iaload, 1) := by decide +kernel
theorem dX5_next_42 : decode cX5_next 42 = .ok (.iload_n 1, 1) := by decide +kernel
theorem dX5_next_43 : decode cX5_next 43 = .ok (.if_icmp .le 14, 3) := by decide +kernel
theorem dX5_next_46 : decode cX5_next 46 = .ok (.iload_n 2, 1) := by decide +kernel
theorem dX5_next_47 : decode cX5_next 47 = .ok (.aload_n 0, 1) := by decide +kernel
theorem dX5_next_48 : decode cX5_next 48 = .ok (.getfield 13, 3) := by decide +kernel
theorem dX5_next_51 : decode cX5_next 51 = .ok (.iload_n 3, 1) := by decide +kernel
theorem dX5_next_52 : decode cX5_next 52 = .ok (.iaload, 1) := by decide +kernel
theorem dX5_next_53 : decode cX5_next 53 = .ok (.invokestatic 106, 3) := by decide +kernel
theorem dX5_next_56 : decode cX5_next 56 = .ok (.istore_n 2, 1) := by decide +kernel
theorem dX5_next_57 : decode cX5_next 57 = .ok (.iinc 3 1, 3) := by decide +kernel
theorem dX5_next_60 : decode cX5_next 60 = .ok (.goto (-32), 3) := by decide +kernel
theorem dX5_next_63 : decode cX5_next 63 = .ok (.iload_n 2, 1) := by decide +kernel
theorem dX5_next_64 : decode cX5_next 64 = .ok (.sipush 200, 3) := by decide +kernel
theorem dX5_next_67 : decode cX5_next 67 = .ok (.if_icmp .ne 7, 3) := by decide +kernel
theorem dX5_next_70 : decode cX5_next 70 = .ok (.iconst (-1), 1) := by decide +kernel
theorem dX5_next_71 : decode cX5_next 71 = .ok (.goto 4, 3) := by decide +kernel
theorem dX5_next_74 : decode cX5_next 74 = .ok (.iload_n 2, 1) := by decide +kernel
theorem dX5_next_75 : decode cX5_next 75 = .ok (.ireturn, 1) := by decide +kernel
set_option maxRecDepth 20000 in
theorem ggX5_isAhead_X4_isIn : GoodIn wsX5_isAhead wsX4_isIn := goodIn_r _ [6, 7, 23, 24, 25, 26, 27, 28, 29, 30, 31, 32, 33, 34] (by decide +kernel) (by decide +kernel)
set_option maxRecDepth 20000 in
theorem gX5_isAhead_X4_isIn : GoodIn wsX5_isAhead (wsV RX5 75 RX4 yX4_isIn wsX4_isIn) := goodIn_app (goodIn_of _ (by decide +kernel)) ggX5_isAhead_X4_isIn
set_option maxRecDepth 20000 in
theorem ggX5_isAhead_X4_time : GoodIn wsX5_isAhead wsX4_time := goodIn_r _ [11, 7, 12, 13, 3, 4, 5, 6, 23, 24, 25, 26, 27, 28, 29, 30, 31, 32, 33, 34] (by decide +kernel) (by decide +kernel)
set_option maxRecDepth 20000 in
theorem gX5_isAhead_X4_time : GoodIn wsX5_isAhead (wsV RX5 90 RX4 yX4_time wsX4_time) := goodIn_app (goodIn_of _ (by decide +kernel)) ggX5_isAhead_X4_time
theorem dX5_isAhead_0 : decode cX5_isAhead 0 = .ok (.aload_n 0, 1) := by decide +kernel
theorem dX5_isAhead_1 : decode cX5_isAhead 1 = .ok (.getfield 27, 3) := by decide +kernel
theorem dX5_isAhead_4 : decode cX5_isAhead 4 = .ok (.iload_n 1, 1) := by decide +kernel
theorem dX5_isAhead_5 : decode cX5_isAhead 5 = .ok (.invokevirtual 75, 3) := by decide +kernel
theorem dX5_isAhead_8 : decode cX5_isAhead 8 = .ok (.aload_n 0, 1) := by decide +kernel
theorem dX5_isAhead_9 : decode cX5_isAhead 9 = .ok (.getfield 27, 3) := by decide +kernel
theorem dX5_isAhead_12 : decode cX5_isAhead 12 = .ok (.iload_n 2, 1) := by decide +kernel
theorem dX5_isAhead_13 : decode cX5_isAhead 13 = .ok (.invokevirtual 75, 3) := by decide +kernel
theorem dX5_isAhead_16 : decode cX5_isAhead 16 = .ok (.if_icmp .eq 12, 3) := by decide +kernel
theorem dX5_isAhead_19 : decode cX5_isAhead 19 = .ok (.aload_n 0, 1) := by decide +kernel
theorem dX5_isAhead_20 : decode cX5_isAhead 20 = .ok (.getfield 27, 3) := by decide +kernel
theorem dX5_isAhead_23 : decode cX5_isAhead 23 = .ok (.iload_n 1, 1) := by decide +kernel
theorem dX5_isAhead_24 : decode cX5_isAhead 24 = .ok (.invokevirtual 75, 3) := by decide +kernel
theorem dX5_isAhead_27 : decode cX5_isAhead 27 = .ok (.ireturn, 1) := by decide +kernel
theorem dX5_isAhead_28 : decode cX5_isAhead 28 = .ok (.aload_n 0, 1) := by decide +kernel
theorem dX5_isAhead_29 : decode cX5_isAhead 29 = .ok (.getfield 27, 3) := by decide +kernel
theorem dX5_isAhead_32 : decode cX5_isAhead 32 = .ok (.iload_n 1, 1) := by decide +kernel
theorem dX5_isAhead_33 : decode cX5_isAhead 33 = .ok (.invokevirtual 75, 3) := by decide +kernel
theorem dX5_isAhead_36 : decode cX5_isAhead 36 = .ok (.ifCond .eq 30, 3) := by decide +kernel
theorem dX5_isAhead_39 : decode cX5_isAhead 39 = .ok (.aload_n 0, 1) := by decide +kernel
theorem dX5_isAhead_40 : decode cX5_isAhead 40 = .ok (.getfield 27, 3) := by decide +kernel
theorem dX5_isAhead_43 : decode cX5_isAhead 43 = .ok (.iload_n 1, 1) := by decide +kernel
theorem dX5_isAhead_44 : decode cX5_isAhead 44 = .ok (.invokevirtual 90, 3) := by decide +kernel
theorem dX5_isAhead_47 : decode cX5_isAhead 47 = .ok (.aload_n 0, 1) := by decide +kernel
theorem dX5_isAhead_48 : decode cX5_isAhead 48 = .ok (.getfield 27, 3) := by decide +kernel
theorem dX5_isAhead_51 : decode cX5_isAhead 51 = .ok (.iload_n 2, 1) := by decide +kernel
theorem dX5_isAhead_52 : decode cX5_isAhead 52 = .ok (.invokevirtual 90, 3) := by decide +kernel
theorem dX5_isAhead_55 : decode cX5_isAhead 55 = .ok (.if_icmp .ge 7, 3) := by decide +kernel
theorem dX5_isAhead_58 : decode cX5_isAhead 58 = .ok (.iconst 1, 1) := by decide +kernel
theorem dX5_isAhead_59 : decode cX5_isAhead 59 = .ok (.goto 33, 3) := by decide +kernel
theorem dX5_isAhead_62 : decode cX5_isAhead 62 = .ok (.iconst 0, 1) := by decide +kernel
theorem dX5_isAhead_63 : decode cX5_isAhead 63 = .ok (.goto 29, 3) := by decide +kernel
theorem dX5_isAhead_66 : decode cX5_isAhead 66 = .ok (.aload_n 0, 1) := by decide +kernel
theorem dX5_isAhead_67 : decode cX5_isAhead 67 = .ok (.getfield 27, 3) := by decide +kernel
theorem dX5_isAhead_70 : decode cX5_isAhead 70 = .ok (.getfield 84, 3) := by decide +kernel
theorem dX5_isAhead_73 : decode cX5_isAhead 73 = .ok (.iload_n 1, 1) := by decide +kernel
theorem dX5_isAhead_74 : decode cX5_isAhead 74 = .ok (.iaload, 1) := by decide +kernel
theorem dX5_isAhead_75 : decode cX5_isAhead 75 = .ok (.aload_n 0, 1) := by decide +kernel
theorem dX5_isAhead_76 : decode cX5_isAhead 76 = .ok (.getfield 27, 3) := by decide +kernel
theorem dX5_isAhead_79 : decode cX5_isAhead 79 = .ok (.getfield 84, 3) := by decide +kernel
theorem dX5_isAhead_82 : decode cX5_isAhead 82 = .ok (.iload_n 2, 1) := by decide +kernel
theorem dX5_isAhead_83 : decode cX5_isAhead 83 = .ok (.iaload, 1) := by decide +kernel
theorem dX5_isAhead_84 : decode cX5_isAhead 84 = .ok (.if_icmp .le 7, 3) := by decide +kernel
theorem dX5_isAhead_87 : decode cX5_isAhead 87 = .ok (.iconst 1, 1) := by decide +kernel
theorem dX5_isAhead_88 : decode cX5_isAhead 88 = .ok (.goto 4, 3) := by decide +kernel
theorem dX5_isAhead_91 : decode cX5_isAhead 91 = .ok (.iconst 0, 1) := by decide +kernel
theorem dX5_isAhead_92 : decode cX5_isAhead 92 = .ok (.ireturn, 1) := by decide +kernel
set_option maxRecDepth 20000 in
theorem ggX5_rankOf_X5_isAhead : GoodIn wsX5_rankOf wsX5_isAhead := goodIn_r _ [6, 7, 8, 9, 10, 11, 12, 13, 14, 15, 16, 17, 18, 19, 20, 21, 22, 23, 24, 25, 26, 27, 28, 29, 30, 31, 32, 33, 34, 35, 36, 37, 38, 39, 40] (by decide +kernel) (by decide +kernel)
set_option maxRecDepth 20000 in
theorem gX5_rankOf_X5_isAhead : GoodIn wsX5_rankOf (wsV RX5 111 RX5 yX5_isAhead wsX5_isAhead) := goodIn_app (goodIn_of _ (by decide +kernel)) ggX5_rankOf_X5_isAhead
theorem dX5_rankOf_0 : decode cX5_rankOf 0 = .ok (.iconst 1, 1) := by decide +kernel
theorem dX5_rankOf_1 : decode cX5_rankOf 1 = .ok (.istore_n 2, 1) := by decide +kernel
theorem dX5_rankOf_2 : decode cX5_rankOf 2 = .ok (.iconst 0, 1) := by decide +kernel
theorem dX5_rankOf_3 : decode cX5_rankOf 3 = .ok (.istore_n 3, 1) := by decide +kernel
theorem dX5_rankOf_4 : decode cX5_rankOf 4 = .ok (.iload_n 3, 1) := by decide +kernel
theorem dX5_rankOf_5 : decode cX5_rankOf 5 = .ok (.aload_n 0, 1) := by decide +kernel
theorem dX5_rankOf_6 : decode cX5_rankOf 6 = .ok (.getfield 38, 3) := by decide +kernel
theorem dX5_rankOf_9 : decode cX5_rankOf 9 = .ok (.if_icmp .ge 26, 3) := by decide +kernel
theorem dX5_rankOf_12 : decode cX5_rankOf 12 = .ok (.iload_n 2, 1) := by decide +kernel
theorem dX5_rankOf_13 : decode cX5_rankOf 13 = .ok (.aload_n 0, 1) := by decide +kernel
theorem dX5_rankOf_14 : decode cX5_rankOf 14 = .ok (.iload_n 3, 1) := by decide +kernel
theorem dX5_rankOf_15 : decode cX5_rankOf 15 = .ok (.iload_n 1, 1) := by decide +kernel
theorem dX5_rankOf_16 : decode cX5_rankOf 16 = .ok (.invokevirtual 111, 3) := by decide +kernel
theorem dX5_rankOf_19 : decode cX5_rankOf 19 = .ok (.ifCond .eq 7, 3) := by decide +kernel
theorem dX5_rankOf_22 : decode cX5_rankOf 22 = .ok (.iconst 1, 1) := by decide +kernel
theorem dX5_rankOf_23 : decode cX5_rankOf 23 = .ok (.goto 4, 3) := by decide +kernel
theorem dX5_rankOf_26 : decode cX5_rankOf 26 = .ok (.iconst 0, 1) := by decide +kernel
theorem dX5_rankOf_27 : decode cX5_rankOf 27 = .ok (.iadd, 1) := by decide +kernel
theorem dX5_rankOf_28 : decode cX5_rankOf 28 = .ok (.istore_n 2, 1) := by decide +kernel
theorem dX5_rankOf_29 : decode cX5_rankOf 29 = .ok (.iinc 3 1, 3) := by decide +kernel
theorem dX5_rankOf_32 : decode cX5_rankOf 32 = .ok (.goto (-28), 3) := by decide +kernel
theorem dX5_rankOf_35 : decode cX5_rankOf 35 = .ok (.iload_n 2, 1) := by decide +kernel
theorem dX5_rankOf_36 : decode cX5_rankOf 36 = .ok (.ireturn, 1) := by decide +kernel
set_option maxRecDepth 20000 in
theorem ggX5_rank_X5_isBoat : GoodIn wsX5_rank wsX5_isBoat := goodIn_r _ [6, 7, 8, 9, 5, 10, 36, 37, 38, 39, 40, 41, 42, 43, 44] (by decide +kernel) (by decide +kernel)
set_option maxRecDepth 20000 in
theorem gX5_rank_X5_isBoat : GoodIn wsX5_rank (wsV RX5 67 RX5 yX5_isBoat wsX5_isBoat) := goodIn_app (goodIn_of _ (by decide +kernel)) ggX5_rank_X5_isBoat
set_option maxRecDepth 20000 in
theorem ggX5_rank_X5_rankOf : GoodIn wsX5_rank wsX5_rankOf := goodIn_r _ [14, 7, 15, 16, 17, 5, 18, 19, 20, 21, 22, 23, 24, 25, 26, 27, 28, 29, 30, 31, 36, 37, 38, 39, 40, 41, 42, 43, 44, 45, 46, 47, 48, 49, 50, 51, 52, 53, 54, 55, 56] (by decide +kernel) (by decide +kernel)
set_option maxRecDepth 20000 in
theorem gX5_rank_X5_rankOf : GoodIn wsX5_rank (wsV RX5 114 RX5 yX5_rankOf wsX5_rankOf) := goodIn_app (goodIn_of _ (by decide +kernel)) ggX5_rank_X5_rankOf
set_option maxRecDepth 20000 in
theorem ggX5_rank_X5_no : GoodIn wsX5_rank wsX5_no := goodIn_r _ [35, 1, 36, 37, 38, 39, 40, 41, 42, 43, 44] (by decide +kernel) (by decide +kernel)
set_option maxRecDepth 20000 in
theorem gX5_rank_X5_no : GoodIn wsX5_rank (wsV RX5 45 RX5 yX5_no wsX5_no) := goodIn_app (goodIn_of _ (by decide +kernel)) ggX5_rank_X5_no
theorem dX5_rank_0 : decode cX5_rank 0 = .ok (.aload_n 0, 1) := by decide +kernel
theorem dX5_rank_1 : decode cX5_rank 1 = .ok (.iconst 0, 1) := by decide +kernel
theorem dX5_rank_2 : decode cX5_rank 2 = .ok (.putfield 34, 3) := by decide +kernel
theorem dX5_rank_5 : decode cX5_rank 5 = .ok (.aload_n 0, 1) := by decide +kernel
theorem dX5_rank_6 : decode cX5_rank 6 = .ok (.iload_n 1, 1) := by decide +kernel
theorem dX5_rank_7 : decode cX5_rank 7 = .ok (.invokevirtual 67, 3) := by decide +kernel
theorem dX5_rank_10 : decode cX5_rank 10 = .ok (.ifCond .eq 11, 3) := by decide +kernel
theorem dX5_rank_13 : decode cX5_rank 13 = .ok (.aload_n 0, 1) := by decide +kernel
theorem dX5_rank_14 : decode cX5_rank 14 = .ok (.iload_n 1, 1) := by decide +kernel
theorem dX5_rank_15 : decode cX5_rank 15 = .ok (.invokevirtual 114, 3) := by decide +kernel
theorem dX5_rank_18 : decode cX5_rank 18 = .ok (.goto 8, 3) := by decide +kernel
theorem dX5_rank_21 : decode cX5_rank 21 = .ok (.aload_n 0, 1) := by decide +kernel
theorem dX5_rank_22 : decode cX5_rank 22 = .ok (.iconst 1, 1) := by decide +kernel
theorem dX5_rank_23 : decode cX5_rank 23 = .ok (.invokevirtual 45, 3) := by decide +kernel
theorem dX5_rank_26 : decode cX5_rank 26 = .ok (.ireturn, 1) := by decide +kernel
set_option maxRecDepth 20000 in
theorem ggX5_go_X5_isFrom : GoodIn wsX5_go wsX5_isFrom := goodIn_r _ [6] (by decide +kernel) (by decide +kernel)
set_option maxRecDepth 20000 in
theorem gX5_go_X5_isFrom : GoodIn wsX5_go (va_wsS RX5 41 yX5_isFrom wsX5_isFrom) := goodIn_app (goodIn_of _ (by decide +kernel)) ggX5_go_X5_isFrom
set_option maxRecDepth 20000 in
theorem ggX5_go_X5_no : GoodIn wsX5_go wsX5_no := goodIn_r _ [10, 1, 70, 71, 72, 73, 74, 75, 76, 77, 78] (by decide +kernel) (by decide +kernel)
set_option maxRecDepth 20000 in
theorem gX5_go_X5_no : GoodIn wsX5_go (wsV RX5 45 RX5 yX5_no wsX5_no) := goodIn_app (goodIn_of _ (by decide +kernel)) ggX5_go_X5_no
set_option maxRecDepth 20000 in
theorem ggX5_go_X4_in : GoodIn wsX5_go wsX4_in := goodIn_r _ [15, 16, 17, 18, 19, 14, 20, 21, 79, 80, 81, 82, 83, 84, 85, 86, 87, 88, 89, 90, 70, 71, 72, 73, 74, 75, 76, 77, 78] (by decide +kernel) (by decide +kernel)
set_option maxRecDepth 20000 in
theorem gX5_go_X4_in : GoodIn wsX5_go (wsV RX5 117 RX4 yX4_in wsX4_in) := goodIn_app (goodIn_of _ (by decide +kernel)) ggX5_go_X4_in
set_option maxRecDepth 20000 in
theorem ggX5_go_X4_go_ : GoodIn wsX5_go wsX4_go_ := goodIn_r _ [25, 16, 26, 17, 18, 19, 14, 20, 21, 27, 28, 29, 30, 31, 32, 33, 34, 35, 36, 37, 38, 39, 40, 41, 42, 43, 44, 45, 46, 47, 48, 49, 50, 51, 52, 53, 54, 55, 56, 57, 58, 59, 60, 61, 62, 63, 64, 65, 66, 67, 68, 69, 79, 80, 81, 82, 83, 84, 85, 86, 87, 88, 89, 90, 70, 71, 72, 73, 74, 75, 76, 77, 78] (by decide +kernel) (by decide +kernel)
set_option maxRecDepth 20000 in
theorem gX5_go_X4_go_ : GoodIn wsX5_go (wsV RX5 121 RX4 yX4_go_ wsX4_go_) := goodIn_app (goodIn_of _ (by decide +kernel)) ggX5_go_X4_go_
theorem dX5_go_0 : decode cX5_go 0 = .ok (.aload_n 0, 1) := by decide +kernel
theorem dX5_go_1 : decode cX5_go 1 = .ok (.iconst 0, 1) := by decide +kernel
theorem dX5_go_2 : decode cX5_go 2 = .ok (.putfield 34, 3) := by decide +kernel
theorem dX5_go_5 : decode cX5_go 5 = .ok (.iload_n 1, 1) := by decide +kernel
theorem dX5_go_6 : decode cX5_go 6 = .ok (.iconst 1, 1) := by decide +kernel
theorem dX5_go_7 : decode cX5_go 7 = .ok (.sipush 200, 3) := by decide +kernel
theorem dX5_go_10 : decode cX5_go 10 = .ok (.invokestatic 41, 3) := by decide +kernel
theorem dX5_go_13 : decode cX5_go 13 = .ok (.ifCond .ne 9, 3) := by decide +kernel
theorem dX5_go_16 : decode cX5_go 16 = .ok (.aload_n 0, 1) := by decide +kernel
theorem dX5_go_17 : decode cX5_go 17 = .ok (.iconst 1, 1) := by decide +kernel
theorem dX5_go_18 : decode cX5_go 18 = .ok (.invokevirtual 45, 3) := by decide +kernel
theorem dX5_go_21 : decode cX5_go 21 = .ok (.ireturn, 1) := by decide +kernel
theorem dX5_go_22 : decode cX5_go 22 = .ok (.aload_n 0, 1) := by decide +kernel
theorem dX5_go_23 : decode cX5_go 23 = .ok (.getfield 27, 3) := by decide +kernel
theorem dX5_go_26 : decode cX5_go 26 = .ok (.invokevirtual 117, 3) := by decide +kernel
theorem dX5_go_29 : decode cX5_go 29 = .ok (.istore_n 2, 1) := by decide +kernel
theorem dX5_go_30 : decode cX5_go 30 = .ok (.iconst 0, 1) := by decide +kernel
theorem dX5_go_31 : decode cX5_go 31 = .ok (.istore_n 3, 1) := by decide +kernel
theorem dX5_go_32 : decode cX5_go 32 = .ok (.iload_n 3, 1) := by decide +kernel
theorem dX5_go_33 : decode cX5_go 33 = .ok (.iload_n 1, 1) := by decide +kernel
theorem dX5_go_34 : decode cX5_go 34 = .ok (.if_icmp .ge 16, 3) := by decide +kernel
theorem dX5_go_37 : decode cX5_go 37 = .ok (.aload_n 0, 1) := by decide +kernel
theorem dX5_go_38 : decode cX5_go 38 = .ok (.getfield 27, 3) := by decide +kernel
theorem dX5_go_41 : decode cX5_go 41 = .ok (.invokevirtual 121, 3) := by decide +kernel
theorem dX5_go_44 : decode cX5_go 44 = .ok (.iinc 3 1, 3) := by decide +kernel
theorem dX5_go_47 : decode cX5_go 47 = .ok (.goto (-15), 3) := by decide +kernel
theorem dX5_go_50 : decode cX5_go 50 = .ok (.aload_n 0, 1) := by decide +kernel
theorem dX5_go_51 : decode cX5_go 51 = .ok (.getfield 27, 3) := by decide +kernel
theorem dX5_go_54 : decode cX5_go 54 = .ok (.invokevirtual 117, 3) := by decide +kernel
theorem dX5_go_57 : decode cX5_go 57 = .ok (.iload_n 2, 1) := by decide +kernel
theorem dX5_go_58 : decode cX5_go 58 = .ok (.isub, 1) := by decide +kernel
theorem dX5_go_59 : decode cX5_go 59 = .ok (.ireturn, 1) := by decide +kernel
set_option maxRecDepth 20000 in
theorem ggX5_arrives_X5_isBoat : GoodIn wsX5_arrives wsX5_isBoat := goodIn_r _ [8, 9, 10, 11, 7, 12, 85, 86, 87, 88, 89, 90, 91, 92, 93] (by decide +kernel) (by decide +kernel)
set_option maxRecDepth 20000 in
theorem gX5_arrives_X5_isBoat : GoodIn wsX5_arrives (wsV RX5 67 RX5 yX5_isBoat wsX5_isBoat) := goodIn_app (goodIn_of _ (by decide +kernel)) ggX5_arrives_X5_isBoat
set_option maxRecDepth 20000 in
theorem ggX5_arrives_X5_no : GoodIn wsX5_arrives wsX5_no := goodIn_r _ [16, 1, 85, 86, 87, 88, 89, 90, 91, 92, 93] (by decide +kernel) (by decide +kernel)
set_option maxRecDepth 20000 in
theorem gX5_arrives_X5_no : GoodIn wsX5_arrives (wsV RX5 45 RX5 yX5_no wsX5_no) := goodIn_app (goodIn_of _ (by decide +kernel)) ggX5_arrives_X5_no
set_option maxRecDepth 20000 in
theorem ggX5_arrives_X4_become : GoodIn wsX5_arrives wsX4_become := goodIn_r _ [21, 22, 23, 24, 25, 26, 27, 28, 29, 30, 31, 32, 33, 34, 35, 20, 36, 37, 38, 39, 40, 94, 95, 96, 97, 98, 99, 100, 101, 102, 103, 104, 105] (by decide +kernel) (by decide +kernel)
set_option maxRecDepth 20000 in
theorem gX5_arrives_X4_become : GoodIn wsX5_arrives (wsV RX5 124 RX4 yX4_become wsX4_become) := goodIn_app (goodIn_of _ (by decide +kernel)) ggX5_arrives_X4_become
set_option maxRecDepth 20000 in
theorem ggX5_arrives_X4_isIn : GoodIn wsX5_arrives wsX4_isIn := goodIn_r _ [44, 28, 94, 95, 96, 97, 98, 99, 100, 101, 102, 103, 104, 105] (by decide +kernel) (by decide +kernel)
set_option maxRecDepth 20000 in
theorem gX5_arrives_X4_isIn : GoodIn wsX5_arrives (wsV RX5 75 RX4 yX4_isIn wsX4_isIn) := goodIn_app (goodIn_of _ (by decide +kernel)) ggX5_arrives_X4_isIn
set_option maxRecDepth 20000 in
theorem ggX5_arrives_X4_go_ : GoodIn wsX5_arrives wsX4_go_ := goodIn_r _ [48, 49, 22, 50, 42, 43, 20, 44, 28, 51, 52, 53, 54, 23, 25, 55, 56, 57, 58, 24, 30, 59, 60, 61, 62, 63, 64, 65, 31, 29, 26, 66, 67, 68, 69, 70, 71, 72, 32, 73, 74, 75, 76, 27, 77, 78, 79, 80, 81, 82, 83, 84, 94, 95, 96, 97, 98, 99, 100, 101, 102, 103, 104, 105, 85, 86, 87, 88, 89, 90, 91, 92, 93] (by decide +kernel) (by decide +kernel)
set_option maxRecDepth 20000 in
theorem gX5_arrives_X4_go_ : GoodIn wsX5_arrives (wsV RX5 121 RX4 yX4_go_ wsX4_go_) := goodIn_app (goodIn_of _ (by decide +kernel)) ggX5_arrives_X4_go_
theorem dX5_arrives_0 : decode cX5_arrives 0 = .ok (.aload_n 0, 1) := by decide +kernel
theorem dX5_arrives_1 : decode cX5_arrives 1 = .ok (.iconst 0, 1) := by decide +kernel
theorem dX5_arrives_2 : decode cX5_arrives 2 = .ok (.putfield 34, 3) := by decide +kernel
theorem dX5_arrives_5 : decode cX5_arrives 5 = .ok (.aload_n 0, 1) := by decide +kernel
theorem dX5_arrives_6 : decode cX5_arrives 6 = .ok (.iload_n 1, 1) := by decide +kernel
theorem dX5_arrives_7 : decode cX5_arrives 7 = .ok (.invokevirtual 67, 3) := by decide +kernel
theorem dX5_arrives_10 : decode cX5_arrives 10 = .ok (.ifCond .ne 9, 3) := by decide +kernel
theorem dX5_arrives_13 : decode cX5_arrives 13 = .ok (.aload_n 0, 1) := by decide +kernel
theorem dX5_arrives_14 : decode cX5_arrives 14 = .ok (.iconst 1, 1) := by decide +kernel
theorem dX5_arrives_15 : decode cX5_arrives 15 = .ok (.invokevirtual 45, 3) := by decide +kernel
theorem dX5_arrives_18 : decode cX5_arrives 18 = .ok (.ireturn, 1) := by decide +kernel
theorem dX5_arrives_19 : decode cX5_arrives 19 = .ok (.aload_n 0, 1) := by decide +kernel
theorem dX5_arrives_20 : decode cX5_arrives 20 = .ok (.getfield 31, 3) := by decide +kernel
theorem dX5_arrives_23 : decode cX5_arrives 23 = .ok (.aload_n 0, 1) := by decide +kernel
theorem dX5_arrives_24 : decode cX5_arrives 24 = .ok (.getfield 27, 3) := by decide +kernel
theorem dX5_arrives_27 : decode cX5_arrives 27 = .ok (.invokevirtual 124, 3) := by decide +kernel
theorem dX5_arrives_30 : decode cX5_arrives 30 = .ok (.iconst 0, 1) := by decide +kernel
theorem dX5_arrives_31 : decode cX5_arrives 31 = .ok (.istore_n 2, 1) := by decide +kernel
theorem dX5_arrives_32 : decode cX5_arrives 32 = .ok (.iload_n 2, 1) := by decide +kernel
theorem dX5_arrives_33 : decode cX5_arrives 33 = .ok (.sipush 400, 3) := by decide +kernel
theorem dX5_arrives_36 : decode cX5_arrives 36 = .ok (.if_icmp .gt 29, 3) := by decide +kernel
theorem dX5_arrives_39 : decode cX5_arrives 39 = .ok (.aload_n 0, 1) := by decide +kernel
theorem dX5_arrives_40 : decode cX5_arrives 40 = .ok (.getfield 31, 3) := by decide +kernel
theorem dX5_arrives_43 : decode cX5_arrives 43 = .ok (.iload_n 1, 1) := by decide +kernel
theorem dX5_arrives_44 : decode cX5_arrives 44 = .ok (.invokevirtual 75, 3) := by decide +kernel
theorem dX5_arrives_47 : decode cX5_arrives 47 = .ok (.ifCond .eq 5, 3) := by decide +kernel
theorem dX5_arrives_50 : decode cX5_arrives 50 = .ok (.iload_n 2, 1) := by decide +kernel
theorem dX5_arrives_51 : decode cX5_arrives 51 = .ok (.ireturn, 1) := by decide +kernel
theorem dX5_arrives_52 : decode cX5_arrives 52 = .ok (.aload_n 0, 1) := by decide +kernel
theorem dX5_arrives_53 : decode cX5_arrives 53 = .ok (.getfield 31, 3) := by decide +kernel
theorem dX5_arrives_56 : decode cX5_arrives 56 = .ok (.invokevirtual 121, 3) := by decide +kernel
theorem dX5_arrives_59 : decode cX5_arrives 59 = .ok (.iinc 2 1, 3) := by decide +kernel
theorem dX5_arrives_62 : decode cX5_arrives 62 = .ok (.goto (-30), 3) := by decide +kernel
theorem dX5_arrives_65 : decode cX5_arrives 65 = .ok (.iconst (-1), 1) := by decide +kernel
theorem dX5_arrives_66 : decode cX5_arrives 66 = .ok (.ireturn, 1) := by decide +kernel
set_option maxRecDepth 20000 in
theorem ggX5_foresee_X5_isFrom : GoodIn wsX5_foresee wsX5_isFrom := goodIn_r _ [7] (by decide +kernel) (by decide +kernel)
set_option maxRecDepth 20000 in
theorem gX5_foresee_X5_isFrom : GoodIn wsX5_foresee (va_wsS RX5 41 yX5_isFrom wsX5_isFrom) := goodIn_app (goodIn_of _ (by decide +kernel)) ggX5_foresee_X5_isFrom
set_option maxRecDepth 20000 in
theorem ggX5_foresee_X5_no : GoodIn wsX5_foresee wsX5_no := goodIn_r _ [11, 1, 92, 93, 94, 95, 96, 97, 98, 99, 100] (by decide +kernel) (by decide +kernel)
set_option maxRecDepth 20000 in
theorem gX5_foresee_X5_no : GoodIn wsX5_foresee (wsV RX5 45 RX5 yX5_no wsX5_no) := goodIn_app (goodIn_of _ (by decide +kernel)) ggX5_foresee_X5_no
set_option maxRecDepth 20000 in
theorem ggX5_foresee_X4_become : GoodIn wsX5_foresee wsX4_become := goodIn_r _ [16, 17, 18, 19, 20, 21, 22, 23, 24, 25, 26, 27, 28, 29, 30, 15, 31, 32, 33, 34, 35, 101, 102, 103, 104, 105, 106, 107, 108, 109, 110, 111, 112] (by decide +kernel) (by decide +kernel)
set_option maxRecDepth 20000 in
theorem gX5_foresee_X4_become : GoodIn wsX5_foresee (wsV RX5 124 RX4 yX4_become wsX4_become) := goodIn_app (goodIn_of _ (by decide +kernel)) ggX5_foresee_X4_become
set_option maxRecDepth 20000 in
theorem ggX5_foresee_X4_go_ : GoodIn wsX5_foresee wsX4_go_ := goodIn_r _ [39, 40, 17, 41, 42, 43, 15, 44, 23, 45, 46, 47, 48, 18, 20, 49, 50, 51, 52, 19, 25, 53, 54, 55, 56, 57, 58, 59, 26, 24, 21, 60, 61, 62, 63, 64, 65, 66, 27, 67, 68, 69, 70, 22, 71, 72, 73, 74, 75, 76, 77, 78, 101, 102, 103, 104, 105, 106, 107, 108, 109, 110, 111, 112, 92, 93, 94, 95, 96, 97, 98, 99, 100] (by decide +kernel) (by decide +kernel)
set_option maxRecDepth 20000 in
theorem gX5_foresee_X4_go_ : GoodIn wsX5_foresee (wsV RX5 121 RX4 yX4_go_ wsX4_go_) := goodIn_app (goodIn_of _ (by decide +kernel)) ggX5_foresee_X4_go_
set_option maxRecDepth 20000 in
theorem ggX5_foresee_X4_counted : GoodIn wsX5_foresee wsX4_counted := goodIn_r _ [82, 40, 22, 18, 83, 17, 41, 42, 43, 15, 44, 23, 84, 85, 86, 87, 88, 89, 90, 91, 101, 102, 103, 104, 105, 106, 107, 108, 109, 110, 111, 112, 92, 93, 94, 95, 96, 97, 98, 99, 100] (by decide +kernel) (by decide +kernel)
set_option maxRecDepth 20000 in
theorem gX5_foresee_X4_counted : GoodIn wsX5_foresee (wsV RX5 103 RX4 yX4_counted wsX4_counted) := goodIn_app (goodIn_of _ (by decide +kernel)) ggX5_foresee_X4_counted
theorem dX5_foresee_0 : decode cX5_foresee 0 = .ok (.aload_n 0, 1) := by decide +kernel
theorem dX5_foresee_1 : decode cX5_foresee 1 = .ok (.iconst 0, 1) := by decide +kernel
theorem dX5_foresee_2 : decode cX5_foresee 2 = .ok (.putfield 34, 3) := by decide +kernel
theorem dX5_foresee_5 : decode cX5_foresee 5 = .ok (.iload_n 1, 1) := by decide +kernel
theorem dX5_foresee_6 : decode cX5_foresee 6 = .ok (.iconst 1, 1) := by decide +kernel
theorem dX5_foresee_7 : decode cX5_foresee 7 = .ok (.sipush 200, 3) := by decide +kernel
theorem dX5_foresee_10 : decode cX5_foresee 10 = .ok (.invokestatic 41, 3) := by decide +kernel
theorem dX5_foresee_13 : decode cX5_foresee 13 = .ok (.ifCond .ne 9, 3) := by decide +kernel
theorem dX5_foresee_16 : decode cX5_foresee 16 = .ok (.aload_n 0, 1) := by decide +kernel
theorem dX5_foresee_17 : decode cX5_foresee 17 = .ok (.iconst 1, 1) := by decide +kernel
theorem dX5_foresee_18 : decode cX5_foresee 18 = .ok (.invokevirtual 45, 3) := by decide +kernel
theorem dX5_foresee_21 : decode cX5_foresee 21 = .ok (.ireturn, 1) := by decide +kernel
theorem dX5_foresee_22 : decode cX5_foresee 22 = .ok (.iload_n 2, 1) := by decide +kernel
theorem dX5_foresee_23 : decode cX5_foresee 23 = .ok (.iconst 3, 1) := by decide +kernel
theorem dX5_foresee_24 : decode cX5_foresee 24 = .ok (.bipush 6, 2) := by decide +kernel
theorem dX5_foresee_26 : decode cX5_foresee 26 = .ok (.invokestatic 41, 3) := by decide +kernel
theorem dX5_foresee_29 : decode cX5_foresee 29 = .ok (.ifCond .ne 9, 3) := by decide +kernel
theorem dX5_foresee_32 : decode cX5_foresee 32 = .ok (.aload_n 0, 1) := by decide +kernel
theorem dX5_foresee_33 : decode cX5_foresee 33 = .ok (.iconst 2, 1) := by decide +kernel
theorem dX5_foresee_34 : decode cX5_foresee 34 = .ok (.invokevirtual 45, 3) := by decide +kernel
theorem dX5_foresee_37 : decode cX5_foresee 37 = .ok (.ireturn, 1) := by decide +kernel
theorem dX5_foresee_38 : decode cX5_foresee 38 = .ok (.aload_n 0, 1) := by decide +kernel
theorem dX5_foresee_39 : decode cX5_foresee 39 = .ok (.getfield 31, 3) := by decide +kernel
theorem dX5_foresee_42 : decode cX5_foresee 42 = .ok (.aload_n 0, 1) := by decide +kernel
theorem dX5_foresee_43 : decode cX5_foresee 43 = .ok (.getfield 27, 3) := by decide +kernel
theorem dX5_foresee_46 : decode cX5_foresee 46 = .ok (.invokevirtual 124, 3) := by decide +kernel
theorem dX5_foresee_49 : decode cX5_foresee 49 = .ok (.iconst 0, 1) := by decide +kernel
theorem dX5_foresee_50 : decode cX5_foresee 50 = .ok (.istore_n 3, 1) := by decide +kernel
theorem dX5_foresee_51 : decode cX5_foresee 51 = .ok (.iload_n 3, 1) := by decide +kernel
theorem dX5_foresee_52 : decode cX5_foresee 52 = .ok (.iload_n 1, 1) := by decide +kernel
theorem dX5_foresee_53 : decode cX5_foresee 53 = .ok (.if_icmp .ge 16, 3) := by decide +kernel
theorem dX5_foresee_56 : decode cX5_foresee 56 = .ok (.aload_n 0, 1) := by decide +kernel
theorem dX5_foresee_57 : decode cX5_foresee 57 = .ok (.getfield 31, 3) := by decide +kernel
theorem dX5_foresee_60 : decode cX5_foresee 60 = .ok (.invokevirtual 121, 3) := by decide +kernel
theorem dX5_foresee_63 : decode cX5_foresee 63 = .ok (.iinc 3 1, 3) := by decide +kernel
theorem dX5_foresee_66 : decode cX5_foresee 66 = .ok (.goto (-15), 3) := by decide +kernel
theorem dX5_foresee_69 : decode cX5_foresee 69 = .ok (.aload_n 0, 1) := by decide +kernel
theorem dX5_foresee_70 : decode cX5_foresee 70 = .ok (.getfield 31, 3) := by decide +kernel
theorem dX5_foresee_73 : decode cX5_foresee 73 = .ok (.iload_n 2, 1) := by decide +kernel
theorem dX5_foresee_74 : decode cX5_foresee 74 = .ok (.invokevirtual 103, 3) := by decide +kernel
theorem dX5_foresee_77 : decode cX5_foresee 77 = .ok (.ireturn, 1) := by decide +kernel
set_option maxRecDepth 20000 in
theorem ggX5_advise_X5_isBoat : GoodIn wsX5_advise wsX5_isBoat := goodIn_r _ [8, 9, 10, 11, 7, 12, 84, 85, 86, 87, 88, 89, 90, 91, 92] (by decide +kernel) (by decide +kernel)
set_option maxRecDepth 20000 in
theorem gX5_advise_X5_isBoat : GoodIn wsX5_advise (wsV RX5 67 RX5 yX5_isBoat wsX5_isBoat) := goodIn_app (goodIn_of _ (by decide +kernel)) ggX5_advise_X5_isBoat
set_option maxRecDepth 20000 in
theorem ggX5_advise_X5_no : GoodIn wsX5_advise wsX5_no := goodIn_r _ [16, 1, 84, 85, 86, 87, 88, 89, 90, 91, 92] (by decide +kernel) (by decide +kernel)
set_option maxRecDepth 20000 in
theorem gX5_advise_X5_no : GoodIn wsX5_advise (wsV RX5 45 RX5 yX5_no wsX5_no) := goodIn_app (goodIn_of _ (by decide +kernel)) ggX5_advise_X5_no
set_option maxRecDepth 20000 in
theorem ggX5_advise_X5_isFrom : GoodIn wsX5_advise wsX5_isFrom := goodIn_r _ [12] (by decide +kernel) (by decide +kernel)
set_option maxRecDepth 20000 in
theorem gX5_advise_X5_isFrom : GoodIn wsX5_advise (va_wsS RX5 41 yX5_isFrom wsX5_isFrom) := goodIn_app (goodIn_of _ (by decide +kernel)) ggX5_advise_X5_isFrom
set_option maxRecDepth 20000 in
theorem ggX5_advise_X4_become : GoodIn wsX5_advise wsX4_become := goodIn_r _ [21, 22, 23, 24, 25, 26, 27, 28, 29, 30, 31, 32, 33, 34, 35, 20, 36, 37, 38, 39, 40, 93, 94, 95, 96, 97, 98, 99, 100, 101, 102, 103, 104] (by decide +kernel) (by decide +kernel)
set_option maxRecDepth 20000 in
theorem gX5_advise_X4_become : GoodIn wsX5_advise (wsV RX5 124 RX4 yX4_become wsX4_become) := goodIn_app (goodIn_of _ (by decide +kernel)) ggX5_advise_X4_become
set_option maxRecDepth 20000 in
theorem ggX5_advise_X4_go_ : GoodIn wsX5_advise wsX4_go_ := goodIn_r _ [44, 45, 22, 46, 47, 48, 20, 49, 28, 50, 51, 52, 53, 23, 25, 54, 55, 56, 57, 24, 30, 58, 59, 60, 61, 62, 63, 64, 31, 29, 26, 65, 66, 67, 68, 69, 70, 71, 32, 72, 73, 74, 75, 27, 76, 77, 78, 79, 80, 81, 82, 83, 93, 94, 95, 96, 97, 98, 99, 100, 101, 102, 103, 104, 84, 85, 86, 87, 88, 89, 90, 91, 92] (by decide +kernel) (by decide +kernel)
set_option maxRecDepth 20000 in
theorem gX5_advise_X4_go_ : GoodIn wsX5_advise (wsV RX5 121 RX4 yX4_go_ wsX4_go_) := goodIn_app (goodIn_of _ (by decide +kernel)) ggX5_advise_X4_go_
theorem dX5_advise_0 : decode cX5_advise 0 = .ok (.aload_n 0, 1) := by decide +kernel
theorem dX5_advise_1 : decode cX5_advise 1 = .ok (.iconst 0, 1) := by decide +kernel
theorem dX5_advise_2 : decode cX5_advise 2 = .ok (.putfield 34, 3) := by decide +kernel
theorem dX5_advise_5 : decode cX5_advise 5 = .ok (.aload_n 0, 1) := by decide +kernel
theorem dX5_advise_6 : decode cX5_advise 6 = .ok (.iload_n 1, 1) := by decide +kernel
theorem dX5_advise_7 : decode cX5_advise 7 = .ok (.invokevirtual 67, 3) := by decide +kernel
theorem dX5_advise_10 : decode cX5_advise 10 = .ok (.ifCond .ne 9, 3) := by decide +kernel
theorem dX5_advise_13 : decode cX5_advise 13 = .ok (.aload_n 0, 1) := by decide +kernel
theorem dX5_advise_14 : decode cX5_advise 14 = .ok (.iconst 1, 1) := by decide +kernel
theorem dX5_advise_15 : decode cX5_advise 15 = .ok (.invokevirtual 45, 3) := by decide +kernel
theorem dX5_advise_18 : decode cX5_advise 18 = .ok (.ireturn, 1) := by decide +kernel
theorem dX5_advise_19 : decode cX5_advise 19 = .ok (.iload_n 2, 1) := by decide +kernel
theorem dX5_advise_20 : decode cX5_advise 20 = .ok (.iconst 1, 1) := by decide +kernel
theorem dX5_advise_21 : decode cX5_advise 21 = .ok (.bipush 60, 2) := by decide +kernel
theorem dX5_advise_23 : decode cX5_advise 23 = .ok (.invokestatic 41, 3) := by decide +kernel
theorem dX5_advise_26 : decode cX5_advise 26 = .ok (.ifCond .ne 9, 3) := by decide +kernel
theorem dX5_advise_29 : decode cX5_advise 29 = .ok (.aload_n 0, 1) := by decide +kernel
theorem dX5_advise_30 : decode cX5_advise 30 = .ok (.iconst 2, 1) := by decide +kernel
theorem dX5_advise_31 : decode cX5_advise 31 = .ok (.invokevirtual 45, 3) := by decide +kernel
theorem dX5_advise_34 : decode cX5_advise 34 = .ok (.ireturn, 1) := by decide +kernel
theorem dX5_advise_35 : decode cX5_advise 35 = .ok (.iconst (-1), 1) := by decide +kernel
theorem dX5_advise_36 : decode cX5_advise 36 = .ok (.istore_n 3, 1) := by decide +kernel
theorem dX5_advise_37 : decode cX5_advise 37 = .ok (.iconst (-1), 1) := by decide +kernel
theorem dX5_advise_38 : decode cX5_advise 38 = .ok (.istore 4, 2) := by decide +kernel
theorem dX5_advise_40 : decode cX5_advise 40 = .ok (.iconst 0, 1) := by decide +kernel
theorem dX5_advise_41 : decode cX5_advise 41 = .ok (.istore 5, 2) := by decide +kernel
theorem dX5_advise_43 : decode cX5_advise 43 = .ok (.iload 5, 2) := by decide +kernel
theorem dX5_advise_45 : decode cX5_advise 45 = .ok (.bipush 34, 2) := by decide +kernel
theorem dX5_advise_47 : decode cX5_advise 47 = .ok (.if_icmp .ge 106, 3) := by decide +kernel
theorem dX5_advise_50 : decode cX5_advise 50 = .ok (.iload 5, 2) := by decide +kernel
theorem dX5_advise_52 : decode cX5_advise 52 = .ok (.bipush 10, 2) := by decide +kernel
theorem dX5_advise_54 : decode cX5_advise 54 = .ok (.irem, 1) := by decide +kernel
theorem dX5_advise_55 : decode cX5_advise 55 = .ok (.iconst 3, 1) := by decide +kernel
theorem dX5_advise_56 : decode cX5_advise 56 = .ok (.if_icmp .le 6, 3) := by decide +kernel
theorem dX5_advise_59 : decode cX5_advise 59 = .ok (.goto 88, 3) := by decide +kernel
theorem dX5_advise_62 : decode cX5_advise 62 = .ok (.aload_n 0, 1) := by decide +kernel
theorem dX5_advise_63 : decode cX5_advise 63 = .ok (.getfield 31, 3) := by decide +kernel
theorem dX5_advise_66 : decode cX5_advise 66 = .ok (.aload_n 0, 1) := by decide +kernel
theorem dX5_advise_67 : decode cX5_advise 67 = .ok (.getfield 27, 3) := by decide +kernel
theorem dX5_advise_70 : decode cX5_advise 70 = .ok (.invokevirtual 124, 3) := by decide +kernel
theorem dX5_advise_73 : decode cX5_advise 73 = .ok (.aload_n 0, 1) := by decide +kernel
theorem dX5_advise_74 : decode cX5_advise 74 = .ok (.getfield 31, 3) := by decide +kernel
theorem dX5_advise_77 : decode cX5_advise 77 = .ok (.getfield 58, 3) := by decide +kernel
theorem dX5_advise_80 : decode cX5_advise 80 = .ok (.iload_n 1, 1) := by decide +kernel
theorem dX5_advise_81 : decode cX5_advise 81 = .ok (.iconst 2, 1) := by decide +kernel
theorem dX5_advise_82 : decode cX5_advise 82 = .ok (.iastore, 1) := by decide +kernel
theorem dX5_advise_83 : decode cX5_advise 83 = .ok (.aload_n 0, 1) := by decide +kernel
theorem dX5_advise_84 : decode cX5_advise 84 = .ok (.getfield 31, 3) := by decide +kernel
theorem dX5_advise_87 : decode cX5_advise 87 = .ok (.getfield 61, 3) := by decide +kernel
theorem dX5_advise_90 : decode cX5_advise 90 = .ok (.iload_n 1, 1) := by decide +kernel
theorem dX5_advise_91 : decode cX5_advise 91 = .ok (.iload 5, 2) := by decide +kernel
theorem dX5_advise_93 : decode cX5_advise 93 = .ok (.iastore, 1) := by decide +kernel
theorem dX5_advise_94 : decode cX5_advise 94 = .ok (.iconst 0, 1) := by decide +kernel
theorem dX5_advise_95 : decode cX5_advise 95 = .ok (.istore 6, 2) := by decide +kernel
theorem dX5_advise_97 : decode cX5_advise 97 = .ok (.iload 6, 2) := by decide +kernel
theorem dX5_advise_99 : decode cX5_advise 99 = .ok (.iload_n 2, 1) := by decide +kernel
theorem dX5_advise_100 : decode cX5_advise 100 = .ok (.if_icmp .ge 16, 3) := by decide +kernel
theorem dX5_advise_103 : decode cX5_advise 103 = .ok (.aload_n 0, 1) := by decide +kernel
theorem dX5_advise_104 : decode cX5_advise 104 = .ok (.getfield 31, 3) := by decide +kernel
theorem dX5_advise_107 : decode cX5_advise 107 = .ok (.invokevirtual 121, 3) := by decide +kernel
theorem dX5_advise_110 : decode cX5_advise 110 = .ok (.iinc 6 1, 3) := by decide +kernel
theorem dX5_advise_113 : decode cX5_advise 113 = .ok (.goto (-16), 3) := by decide +kernel
theorem dX5_advise_116 : decode cX5_advise 116 = .ok (.aload_n 0, 1) := by decide +kernel
theorem dX5_advise_117 : decode cX5_advise 117 = .ok (.getfield 31, 3) := by decide +kernel
theorem dX5_advise_120 : decode cX5_advise 120 = .ok (.getfield 84, 3) := by decide +kernel
theorem dX5_advise_123 : decode cX5_advise 123 = .ok (.iload_n 1, 1) := by decide +kernel
theorem dX5_advise_124 : decode cX5_advise 124 = .ok (.iaload, 1) := by decide +kernel
theorem dX5_advise_125 : decode cX5_advise 125 = .ok (.iload 4, 2) := by decide +kernel
theorem dX5_advise_127 : decode cX5_advise 127 = .ok (.if_icmp .gt 6, 3) := by decide +kernel
theorem dX5_advise_130 : decode cX5_advise 130 = .ok (.goto 17, 3) := by decide +kernel
theorem dX5_advise_133 : decode cX5_advise 133 = .ok (.aload_n 0, 1) := by decide +kernel
theorem dX5_advise_134 : decode cX5_advise 134 = .ok (.getfield 31, 3) := by decide +kernel
theorem dX5_advise_137 : decode cX5_advise 137 = .ok (.getfield 84, 3) := by decide +kernel
theorem dX5_advise_140 : decode cX5_advise 140 = .ok (.iload_n 1, 1) := by decide +kernel
theorem dX5_advise_141 : decode cX5_advise 141 = .ok (.iaload, 1) := by decide +kernel
theorem dX5_advise_142 : decode cX5_advise 142 = .ok (.istore 4, 2) := by decide +kernel
theorem dX5_advise_144 : decode cX5_advise 144 = .ok (.iload 5, 2) := by decide +kernel
theorem dX5_advise_146 : decode cX5_advise 146 = .ok (.istore_n 3, 1) := by decide +kernel
theorem dX5_advise_147 : decode cX5_advise 147 = .ok (.iinc 5 1, 3) := by decide +kernel
theorem dX5_advise_150 : decode cX5_advise 150 = .ok (.goto (-107), 3) := by decide +kernel
theorem dX5_advise_153 : decode cX5_advise 153 = .ok (.iload_n 3, 1) := by decide +kernel
theorem dX5_advise_154 : decode cX5_advise 154 = .ok (.ireturn, 1) := by decide +kernel
theorem dX5_mean_0 : decode cX5_mean 0 = .ok (.aload_n 0, 1) := by decide +kernel
theorem dX5_mean_1 : decode cX5_mean 1 = .ok (.iconst 0, 1) := by decide +kernel
theorem dX5_mean_2 : decode cX5_mean 2 = .ok (.putfield 34, 3) := by decide +kernel
theorem dX5_mean_5 : decode cX5_mean 5 = .ok (.iconst 0, 1) := by decide +kernel
theorem dX5_mean_6 : decode cX5_mean 6 = .ok (.istore_n 1, 1) := by decide +kernel
theorem dX5_mean_7 : decode cX5_mean 7 = .ok (.iconst 0, 1) := by decide +kernel
theorem dX5_mean_8 : decode cX5_mean 8 = .ok (.istore_n 2, 1) := by decide +kernel
theorem dX5_mean_9 : decode cX5_mean 9 = .ok (.iload_n 2, 1) := by decide +kernel
theorem dX5_mean_10 : decode cX5_mean 10 = .ok (.aload_n 0, 1) := by decide +kernel
theorem dX5_mean_11 : decode cX5_mean 11 = .ok (.getfield 38, 3) := by decide +kernel
theorem dX5_mean_14 : decode cX5_mean 14 = .ok (.if_icmp .ge 21, 3) := by decide +kernel
theorem dX5_mean_17 : decode cX5_mean 17 = .ok (.iload_n 1, 1) := by decide +kernel
theorem dX5_mean_18 : decode cX5_mean 18 = .ok (.aload_n 0, 1) := by decide +kernel
theorem dX5_mean_19 : decode cX5_mean 19 = .ok (.getfield 27, 3) := by decide +kernel
theorem dX5_mean_22 : decode cX5_mean 22 = .ok (.getfield 84, 3) := by decide +kernel
theorem dX5_mean_25 : decode cX5_mean 25 = .ok (.iload_n 2, 1) := by decide +kernel
theorem dX5_mean_26 : decode cX5_mean 26 = .ok (.iaload, 1) := by decide +kernel
theorem dX5_mean_27 : decode cX5_mean 27 = .ok (.iadd, 1) := by decide +kernel
theorem dX5_mean_28 : decode cX5_mean 28 = .ok (.istore_n 1, 1) := by decide +kernel
theorem dX5_mean_29 : decode cX5_mean 29 = .ok (.iinc 2 1, 3) := by decide +kernel
theorem dX5_mean_32 : decode cX5_mean 32 = .ok (.goto (-23), 3) := by decide +kernel
theorem dX5_mean_35 : decode cX5_mean 35 = .ok (.aload_n 0, 1) := by decide +kernel
theorem dX5_mean_36 : decode cX5_mean 36 = .ok (.getfield 38, 3) := by decide +kernel
theorem dX5_mean_39 : decode cX5_mean 39 = .ok (.ifCond .ne 7, 3) := by decide +kernel
theorem dX5_mean_42 : decode cX5_mean 42 = .ok (.dconst 0, 1) := by decide +kernel
theorem dX5_mean_43 : decode cX5_mean 43 = .ok (.goto 11, 3) := by decide +kernel
theorem dX5_mean_46 : decode cX5_mean 46 = .ok (.iload_n 1, 1) := by decide +kernel
theorem dX5_mean_47 : decode cX5_mean 47 = .ok (.i2d, 1) := by decide +kernel
theorem dX5_mean_48 : decode cX5_mean 48 = .ok (.aload_n 0, 1) := by decide +kernel
theorem dX5_mean_49 : decode cX5_mean 49 = .ok (.getfield 38, 3) := by decide +kernel
theorem dX5_mean_52 : decode cX5_mean 52 = .ok (.i2d, 1) := by decide +kernel
theorem dX5_mean_53 : decode cX5_mean 53 = .ok (.ddiv, 1) := by decide +kernel
theorem dX5_mean_54 : decode cX5_mean 54 = .ok (.dreturn, 1) := by decide +kernel
set_option maxRecDepth 20000 in
theorem ggX5_digest_X4_counted : GoodIn wsX5_digest wsX4_counted := goodIn_r _ [14, 15, 16, 17, 18, 19, 20, 21, 22, 13, 23, 24, 25, 26, 27, 28, 29, 30, 31, 32, 63, 64, 65, 66, 67, 68, 69, 70, 71, 72, 73, 74, 54, 55, 56, 57, 58, 59, 60, 61, 62] (by decide +kernel) (by decide +kernel)
set_option maxRecDepth 20000 in
theorem gX5_digest_X4_counted : GoodIn wsX5_digest (wsV RX5 103 RX4 yX4_counted wsX4_counted) := goodIn_app (goodIn_of _ (by decide +kernel)) ggX5_digest_X4_counted
set_option maxRecDepth 20000 in
theorem ggX5_digest_X5_boatTold : GoodIn wsX5_digest wsX5_boatTold := goodIn_r _ [37, 18, 4, 38, 21, 22, 13, 23, 24, 39, 26, 27, 28, 16, 20, 54, 55, 56, 57, 58, 59, 60, 61, 62, 63, 64, 65, 66, 67, 68, 69, 70, 71, 72, 73, 74] (by decide +kernel) (by decide +kernel)
set_option maxRecDepth 20000 in
theorem gX5_digest_X5_boatTold : GoodIn wsX5_digest (wsV RX5 99 RX5 yX5_boatTold wsX5_boatTold) := goodIn_app (goodIn_of _ (by decide +kernel)) ggX5_digest_X5_boatTold
set_option maxRecDepth 20000 in
theorem ggX5_digest_X4_stroke : GoodIn wsX5_digest wsX4_stroke := goodIn_r _ [43, 44, 45, 63, 64, 65, 66, 67, 68, 69, 70, 71, 72, 73, 74] (by decide +kernel) (by decide +kernel)
set_option maxRecDepth 20000 in
theorem gX5_digest_X4_stroke : GoodIn wsX5_digest (wsV RX5 132 RX4 yX4_stroke wsX4_stroke) := goodIn_app (goodIn_of _ (by decide +kernel)) ggX5_digest_X4_stroke
set_option maxRecDepth 20000 in
theorem ggX5_digest_X5_rankOf : GoodIn wsX5_digest wsX5_rankOf := goodIn_r _ [49, 9, 50, 51, 52, 36, 53, 4, 38, 21, 22, 13, 23, 24, 39, 26, 27, 28, 16, 20, 54, 55, 56, 57, 58, 59, 60, 61, 62, 63, 64, 65, 66, 67, 68, 69, 70, 71, 72, 73, 74] (by decide +kernel) (by decide +kernel)
set_option maxRecDepth 20000 in
theorem gX5_digest_X5_rankOf : GoodIn wsX5_digest (wsV RX5 114 RX5 yX5_rankOf wsX5_rankOf) := goodIn_app (goodIn_of _ (by decide +kernel)) ggX5_digest_X5_rankOf
theorem dX5_digest_0 : decode cX5_digest 0 = .ok (.aload_n 0, 1) := by decide +kernel
theorem dX5_digest_1 : decode cX5_digest 1 = .ok (.iconst 0, 1) := by decide +kernel
theorem dX5_digest_2 : decode cX5_digest 2 = .ok (.putfield 34, 3) := by decide +kernel
theorem dX5_digest_5 : decode cX5_digest 5 = .ok (.ldc2_w 128, 3) := by decide +kernel
theorem dX5_digest_8 : decode cX5_digest 8 = .ok (.lstore_n 1, 1) := by decide +kernel
theorem dX5_digest_9 : decode cX5_digest 9 = .ok (.iconst 0, 1) := by decide +kernel
theorem dX5_digest_10 : decode cX5_digest 10 = .ok (.istore_n 3, 1) := by decide +kernel
theorem dX5_digest_11 : decode cX5_digest 11 = .ok (.iload_n 3, 1) := by decide +kernel
theorem dX5_digest_12 : decode cX5_digest 12 = .ok (.bipush 7, 2) := by decide +kernel
theorem dX5_digest_14 : decode cX5_digest 14 = .ok (.if_icmp .ge 25, 3) := by decide +kernel
theorem dX5_digest_17 : decode cX5_digest 17 = .ok (.lload_n 1, 1) := by decide +kernel
theorem dX5_digest_18 : decode cX5_digest 18 = .ok (.ldc2_w 130, 3) := by decide +kernel
theorem dX5_digest_21 : decode cX5_digest 21 = .ok (.lmul, 1) := by decide +kernel
theorem dX5_digest_22 : decode cX5_digest 22 = .ok (.aload_n 0, 1) := by decide +kernel
theorem dX5_digest_23 : decode cX5_digest 23 = .ok (.getfield 27, 3) := by decide +kernel
theorem dX5_digest_26 : decode cX5_digest 26 = .ok (.iload_n 3, 1) := by decide +kernel
theorem dX5_digest_27 : decode cX5_digest 27 = .ok (.invokevirtual 103, 3) := by decide +kernel
theorem dX5_digest_30 : decode cX5_digest 30 = .ok (.i2l, 1) := by decide +kernel
theorem dX5_digest_31 : decode cX5_digest 31 = .ok (.ladd, 1) := by decide +kernel
theorem dX5_digest_32 : decode cX5_digest 32 = .ok (.lstore_n 1, 1) := by decide +kernel
theorem dX5_digest_33 : decode cX5_digest 33 = .ok (.iinc 3 1, 3) := by decide +kernel
theorem dX5_digest_36 : decode cX5_digest 36 = .ok (.goto (-25), 3) := by decide +kernel
theorem dX5_digest_39 : decode cX5_digest 39 = .ok (.aload_n 0, 1) := by decide +kernel
theorem dX5_digest_40 : decode cX5_digest 40 = .ok (.getfield 7, 3) := by decide +kernel
theorem dX5_digest_43 : decode cX5_digest 43 = .ok (.astore_n 3, 1) := by decide +kernel
theorem dX5_digest_44 : decode cX5_digest 44 = .ok (.aload_n 3, 1) := by decide +kernel
theorem dX5_digest_45 : decode cX5_digest 45 = .ok (.arraylength, 1) := by decide +kernel
theorem dX5_digest_46 : decode cX5_digest 46 = .ok (.istore 4, 2) := by decide +kernel
theorem dX5_digest_48 : decode cX5_digest 48 = .ok (.iconst 0, 1) := by decide +kernel
theorem dX5_digest_49 : decode cX5_digest 49 = .ok (.istore 5, 2) := by decide +kernel
theorem dX5_digest_51 : decode cX5_digest 51 = .ok (.iload 5, 2) := by decide +kernel
theorem dX5_digest_53 : decode cX5_digest 53 = .ok (.iload 4, 2) := by decide +kernel
theorem dX5_digest_55 : decode cX5_digest 55 = .ok (.if_icmp .ge 25, 3) := by decide +kernel
theorem dX5_digest_58 : decode cX5_digest 58 = .ok (.aload_n 3, 1) := by decide +kernel
theorem dX5_digest_59 : decode cX5_digest 59 = .ok (.iload 5, 2) := by decide +kernel
theorem dX5_digest_61 : decode cX5_digest 61 = .ok (.iaload, 1) := by decide +kernel
theorem dX5_digest_62 : decode cX5_digest 62 = .ok (.istore 6, 2) := by decide +kernel
theorem dX5_digest_64 : decode cX5_digest 64 = .ok (.lload_n 1, 1) := by decide +kernel
theorem dX5_digest_65 : decode cX5_digest 65 = .ok (.ldc2_w 130, 3) := by decide +kernel
theorem dX5_digest_68 : decode cX5_digest 68 = .ok (.lmul, 1) := by decide +kernel
theorem dX5_digest_69 : decode cX5_digest 69 = .ok (.iload 6, 2) := by decide +kernel
theorem dX5_digest_71 : decode cX5_digest 71 = .ok (.i2l, 1) := by decide +kernel
theorem dX5_digest_72 : decode cX5_digest 72 = .ok (.ladd, 1) := by decide +kernel
theorem dX5_digest_73 : decode cX5_digest 73 = .ok (.lstore_n 1, 1) := by decide +kernel
theorem dX5_digest_74 : decode cX5_digest 74 = .ok (.iinc 5 1, 3) := by decide +kernel
theorem dX5_digest_77 : decode cX5_digest 77 = .ok (.goto (-26), 3) := by decide +kernel
theorem dX5_digest_80 : decode cX5_digest 80 = .ok (.iconst 0, 1) := by decide +kernel
theorem dX5_digest_81 : decode cX5_digest 81 = .ok (.istore_n 3, 1) := by decide +kernel
theorem dX5_digest_82 : decode cX5_digest 82 = .ok (.iload_n 3, 1) := by decide +kernel
theorem dX5_digest_83 : decode cX5_digest 83 = .ok (.aload_n 0, 1) := by decide +kernel
theorem dX5_digest_84 : decode cX5_digest 84 = .ok (.getfield 49, 3) := by decide +kernel
theorem dX5_digest_87 : decode cX5_digest 87 = .ok (.if_icmp .ge 35, 3) := by decide +kernel
theorem dX5_digest_90 : decode cX5_digest 90 = .ok (.lload_n 1, 1) := by decide +kernel
theorem dX5_digest_91 : decode cX5_digest 91 = .ok (.ldc2_w 130, 3) := by decide +kernel
theorem dX5_digest_94 : decode cX5_digest 94 = .ok (.lmul, 1) := by decide +kernel
theorem dX5_digest_95 : decode cX5_digest 95 = .ok (.aload_n 0, 1) := by decide +kernel
theorem dX5_digest_96 : decode cX5_digest 96 = .ok (.getfield 13, 3) := by decide +kernel
theorem dX5_digest_99 : decode cX5_digest 99 = .ok (.iload_n 3, 1) := by decide +kernel
theorem dX5_digest_100 : decode cX5_digest 100 = .ok (.iaload, 1) := by decide +kernel
theorem dX5_digest_101 : decode cX5_digest 101 = .ok (.i2l, 1) := by decide +kernel
theorem dX5_digest_102 : decode cX5_digest 102 = .ok (.ladd, 1) := by decide +kernel
theorem dX5_digest_103 : decode cX5_digest 103 = .ok (.ldc2_w 130, 3) := by decide +kernel
theorem dX5_digest_106 : decode cX5_digest 106 = .ok (.lmul, 1) := by decide +kernel
theorem dX5_digest_107 : decode cX5_digest 107 = .ok (.aload_n 0, 1) := by decide +kernel
theorem dX5_digest_108 : decode cX5_digest 108 = .ok (.getfield 16, 3) := by decide +kernel
theorem dX5_digest_111 : decode cX5_digest 111 = .ok (.iload_n 3, 1) := by decide +kernel
theorem dX5_digest_112 : decode cX5_digest 112 = .ok (.iaload, 1) := by decide +kernel
theorem dX5_digest_113 : decode cX5_digest 113 = .ok (.i2l, 1) := by decide +kernel
theorem dX5_digest_114 : decode cX5_digest 114 = .ok (.ladd, 1) := by decide +kernel
theorem dX5_digest_115 : decode cX5_digest 115 = .ok (.lstore_n 1, 1) := by decide +kernel
theorem dX5_digest_116 : decode cX5_digest 116 = .ok (.iinc 3 1, 3) := by decide +kernel
theorem dX5_digest_119 : decode cX5_digest 119 = .ok (.goto (-37), 3) := by decide +kernel
theorem dX5_digest_122 : decode cX5_digest 122 = .ok (.iconst 0, 1) := by decide +kernel
theorem dX5_digest_123 : decode cX5_digest 123 = .ok (.istore_n 3, 1) := by decide +kernel
theorem dX5_digest_124 : decode cX5_digest 124 = .ok (.iload_n 3, 1) := by decide +kernel
theorem dX5_digest_125 : decode cX5_digest 125 = .ok (.aload_n 0, 1) := by decide +kernel
theorem dX5_digest_126 : decode cX5_digest 126 = .ok (.getfield 38, 3) := by decide +kernel
theorem dX5_digest_129 : decode cX5_digest 129 = .ok (.if_icmp .ge 94, 3) := by decide +kernel
theorem dX5_digest_132 : decode cX5_digest 132 = .ok (.iconst 0, 1) := by decide +kernel
theorem dX5_digest_133 : decode cX5_digest 133 = .ok (.istore 4, 2) := by decide +kernel
theorem dX5_digest_135 : decode cX5_digest 135 = .ok (.iload 4, 2) := by decide +kernel
theorem dX5_digest_137 : decode cX5_digest 137 = .ok (.bipush 9, 2) := by decide +kernel
theorem dX5_digest_139 : decode cX5_digest 139 = .ok (.if_icmp .ge 24, 3) := by decide +kernel
theorem dX5_digest_142 : decode cX5_digest 142 = .ok (.lload_n 1, 1) := by decide +kernel
theorem dX5_digest_143 : decode cX5_digest 143 = .ok (.ldc2_w 130, 3) := by decide +kernel
theorem dX5_digest_146 : decode cX5_digest 146 = .ok (.lmul, 1) := by decide +kernel
theorem dX5_digest_147 : decode cX5_digest 147 = .ok (.aload_n 0, 1) := by decide +kernel
theorem dX5_digest_148 : decode cX5_digest 148 = .ok (.iload_n 3, 1) := by decide +kernel
theorem dX5_digest_149 : decode cX5_digest 149 = .ok (.iload 4, 2) := by decide +kernel
theorem dX5_digest_151 : decode cX5_digest 151 = .ok (.invokevirtual 99, 3) := by decide +kernel
theorem dX5_digest_154 : decode cX5_digest 154 = .ok (.i2l, 1) := by decide +kernel
theorem dX5_digest_155 : decode cX5_digest 155 = .ok (.ladd, 1) := by decide +kernel
theorem dX5_digest_156 : decode cX5_digest 156 = .ok (.lstore_n 1, 1) := by decide +kernel
theorem dX5_digest_157 : decode cX5_digest 157 = .ok (.iinc 4 1, 3) := by decide +kernel
theorem dX5_digest_160 : decode cX5_digest 160 = .ok (.goto (-25), 3) := by decide +kernel
theorem dX5_digest_163 : decode cX5_digest 163 = .ok (.iconst 0, 1) := by decide +kernel
theorem dX5_digest_164 : decode cX5_digest 164 = .ok (.istore 4, 2) := by decide +kernel
theorem dX5_digest_166 : decode cX5_digest 166 = .ok (.iload 4, 2) := by decide +kernel
theorem dX5_digest_168 : decode cX5_digest 168 = .ok (.aload_n 0, 1) := by decide +kernel
theorem dX5_digest_169 : decode cX5_digest 169 = .ok (.getfield 27, 3) := by decide +kernel
theorem dX5_digest_172 : decode cX5_digest 172 = .ok (.getfield 58, 3) := by decide +kernel
theorem dX5_digest_175 : decode cX5_digest 175 = .ok (.iload_n 3, 1) := by decide +kernel
theorem dX5_digest_176 : decode cX5_digest 176 = .ok (.iaload, 1) := by decide +kernel
theorem dX5_digest_177 : decode cX5_digest 177 = .ok (.if_icmp .ge 27, 3) := by decide +kernel
theorem dX5_digest_180 : decode cX5_digest 180 = .ok (.lload_n 1, 1) := by decide +kernel
theorem dX5_digest_181 : decode cX5_digest 181 = .ok (.ldc2_w 130, 3) := by decide +kernel
theorem dX5_digest_184 : decode cX5_digest 184 = .ok (.lmul, 1) := by decide +kernel
theorem dX5_digest_185 : decode cX5_digest 185 = .ok (.aload_n 0, 1) := by decide +kernel
theorem dX5_digest_186 : decode cX5_digest 186 = .ok (.getfield 27, 3) := by decide +kernel
theorem dX5_digest_189 : decode cX5_digest 189 = .ok (.iload_n 3, 1) := by decide +kernel
theorem dX5_digest_190 : decode cX5_digest 190 = .ok (.iload 4, 2) := by decide +kernel
theorem dX5_digest_192 : decode cX5_digest 192 = .ok (.invokevirtual 132, 3) := by decide +kernel
theorem dX5_digest_195 : decode cX5_digest 195 = .ok (.i2l, 1) := by decide +kernel
theorem dX5_digest_196 : decode cX5_digest 196 = .ok (.ladd, 1) := by decide +kernel
theorem dX5_digest_197 : decode cX5_digest 197 = .ok (.lstore_n 1, 1) := by decide +kernel
theorem dX5_digest_198 : decode cX5_digest 198 = .ok (.iinc 4 1, 3) := by decide +kernel
theorem dX5_digest_201 : decode cX5_digest 201 = .ok (.goto (-35), 3) := by decide +kernel
theorem dX5_digest_204 : decode cX5_digest 204 = .ok (.lload_n 1, 1) := by decide +kernel
theorem dX5_digest_205 : decode cX5_digest 205 = .ok (.ldc2_w 130, 3) := by decide +kernel
theorem dX5_digest_208 : decode cX5_digest 208 = .ok (.lmul, 1) := by decide +kernel
theorem dX5_digest_209 : decode cX5_digest 209 = .ok (.aload_n 0, 1) := by decide +kernel
theorem dX5_digest_210 : decode cX5_digest 210 = .ok (.iload_n 3, 1) := by decide +kernel
theorem dX5_digest_211 : decode cX5_digest 211 = .ok (.invokevirtual 114, 3) := by decide +kernel
theorem dX5_digest_214 : decode cX5_digest 214 = .ok (.i2l, 1) := by decide +kernel
theorem dX5_digest_215 : decode cX5_digest 215 = .ok (.ladd, 1) := by decide +kernel
theorem dX5_digest_216 : decode cX5_digest 216 = .ok (.lstore_n 1, 1) := by decide +kernel
theorem dX5_digest_217 : decode cX5_digest 217 = .ok (.iinc 3 1, 3) := by decide +kernel
theorem dX5_digest_220 : decode cX5_digest 220 = .ok (.goto (-96), 3) := by decide +kernel
theorem dX5_digest_223 : decode cX5_digest 223 = .ok (.lload_n 1, 1) := by decide +kernel
theorem dX5_digest_224 : decode cX5_digest 224 = .ok (.lreturn, 1) := by decide +kernel
end
section
theorem dJ9_floorMod_7cf53_0 : decode cJ9_floorMod_7cf53 0 = .ok (.iload_n 0, 1) := by decide +kernel
theorem dJ9_floorMod_7cf53_1 : decode cJ9_floorMod_7cf53 1 = .ok (.iload_n 1, 1) := by decide +kernel
theorem dJ9_floorMod_7cf53_2 : decode cJ9_floorMod_7cf53 2 = .ok (.irem, 1) := by decide +kernel
theorem dJ9_floorMod_7cf53_3 : decode cJ9_floorMod_7cf53 3 = .ok (.istore_n 2, 1) := by decide +kernel
theorem dJ9_floorMod_7cf53_4 : decode cJ9_floorMod_7cf53 4 = .ok (.iload_n 0, 1) := by decide +kernel
theorem dJ9_floorMod_7cf53_5 : decode cJ9_floorMod_7cf53 5 = .ok (.iload_n 1, 1) := by decide +kernel
theorem dJ9_floorMod_7cf53_6 : decode cJ9_floorMod_7cf53 6 = .ok (.ixor, 1) := by decide +kernel
theorem dJ9_floorMod_7cf53_7 : decode cJ9_floorMod_7cf53 7 = .ok (.ifCond .ge 11, 3) := by decide +kernel
theorem dJ9_floorMod_7cf53_10 : decode cJ9_floorMod_7cf53 10 = .ok (.iload_n 2, 1) := by decide +kernel
theorem dJ9_floorMod_7cf53_11 : decode cJ9_floorMod_7cf53 11 = .ok (.ifCond .eq 7, 3) := by decide +kernel
theorem dJ9_floorMod_7cf53_14 : decode cJ9_floorMod_7cf53 14 = .ok (.iload_n 2, 1) := by decide +kernel
theorem dJ9_floorMod_7cf53_15 : decode cJ9_floorMod_7cf53 15 = .ok (.iload_n 1, 1) := by decide +kernel
theorem dJ9_floorMod_7cf53_16 : decode cJ9_floorMod_7cf53 16 = .ok (.iadd, 1) := by decide +kernel
theorem dJ9_floorMod_7cf53_17 : decode cJ9_floorMod_7cf53 17 = .ok (.ireturn, 1) := by decide +kernel
theorem dJ9_floorMod_7cf53_18 : decode cJ9_floorMod_7cf53 18 = .ok (.iload_n 2, 1) := by decide +kernel
theorem dJ9_floorMod_7cf53_19 : decode cJ9_floorMod_7cf53 19 = .ok (.ireturn, 1) := by decide +kernel
theorem dJ9_abs_0f7a4_0 : decode cJ9_abs_0f7a4 0 = .ok (.iload_n 0, 1) := by decide +kernel
theorem dJ9_abs_0f7a4_1 : decode cJ9_abs_0f7a4 1 = .ok (.ifCond .ge 8, 3) := by decide +kernel
theorem dJ9_abs_0f7a4_4 : decode cJ9_abs_0f7a4 4 = .ok (.iload_n 0, 1) := by decide +kernel
theorem dJ9_abs_0f7a4_5 : decode cJ9_abs_0f7a4 5 = .ok (.ineg, 1) := by decide +kernel
theorem dJ9_abs_0f7a4_6 : decode cJ9_abs_0f7a4 6 = .ok (.goto 4, 3) := by decide +kernel
theorem dJ9_abs_0f7a4_9 : decode cJ9_abs_0f7a4 9 = .ok (.iload_n 0, 1) := by decide +kernel
theorem dJ9_abs_0f7a4_10 : decode cJ9_abs_0f7a4 10 = .ok (.ireturn, 1) := by decide +kernel
theorem dJ9_max_7cf53_0 : decode cJ9_max_7cf53 0 = .ok (.iload_n 0, 1) := by decide +kernel
theorem dJ9_max_7cf53_1 : decode cJ9_max_7cf53 1 = .ok (.iload_n 1, 1) := by decide +kernel
theorem dJ9_max_7cf53_2 : decode cJ9_max_7cf53 2 = .ok (.if_icmp .lt 7, 3) := by decide +kernel
theorem dJ9_max_7cf53_5 : decode cJ9_max_7cf53 5 = .ok (.iload_n 0, 1) := by decide +kernel
theorem dJ9_max_7cf53_6 : decode cJ9_max_7cf53 6 = .ok (.goto 4, 3) := by decide +kernel
theorem dJ9_max_7cf53_9 : decode cJ9_max_7cf53 9 = .ok (.iload_n 1, 1) := by decide +kernel
theorem dJ9_max_7cf53_10 : decode cJ9_max_7cf53 10 = .ok (.ireturn, 1) := by decide +kernel
theorem dJ9_min_7cf53_0 : decode cJ9_min_7cf53 0 = .ok (.iload_n 0, 1) := by decide +kernel
theorem dJ9_min_7cf53_1 : decode cJ9_min_7cf53 1 = .ok (.iload_n 1, 1) := by decide +kernel
theorem dJ9_min_7cf53_2 : decode cJ9_min_7cf53 2 = .ok (.if_icmp .gt 7, 3) := by decide +kernel
theorem dJ9_min_7cf53_5 : decode cJ9_min_7cf53 5 = .ok (.iload_n 0, 1) := by decide +kernel
theorem dJ9_min_7cf53_6 : decode cJ9_min_7cf53 6 = .ok (.goto 4, 3) := by decide +kernel
theorem dJ9_min_7cf53_9 : decode cJ9_min_7cf53 9 = .ok (.iload_n 1, 1) := by decide +kernel
theorem dJ9_min_7cf53_10 : decode cJ9_min_7cf53 10 = .ok (.ireturn, 1) := by decide +kernel
set_option maxRecDepth 20000 in
theorem ggL_setWater_X3_setWater : GoodIn wsL_setWater wsX3_setWater := goodIn_ca (goodIn_ca (goodIn_r _ [7, 8, 9, 10, 11, 12, 13, 14, 15, 16, 17, 18, 19, 20, 21, 22, 23, 24] (by decide +kernel) (by decide +kernel)) (goodIn_sub (fun _ h => List.mem_cons_of_mem _ (List.mem_append_left _ (List.mem_append_right _ h))) (by decide +kernel))) (goodIn_sub (fun _ h => List.mem_cons_of_mem _ (List.mem_append_right _ h)) (by decide +kernel))
set_option maxRecDepth 20000 in
theorem gL_setWater_X3_setWater : GoodIn wsL_setWater (wsV RL 7 RX3 yX3_setWater wsX3_setWater) := goodIn_app (goodIn_of _ (by decide +kernel)) ggL_setWater_X3_setWater
theorem dL_setWater_0 : decode cL_setWater 0 = .ok (.aload_n 3, 1) := by decide +kernel
theorem dL_setWater_1 : decode cL_setWater 1 = .ok (.iconst 0, 1) := by decide +kernel
theorem dL_setWater_2 : decode cL_setWater 2 = .ok (.aload_n 0, 1) := by decide +kernel
theorem dL_setWater_3 : decode cL_setWater 3 = .ok (.iload_n 1, 1) := by decide +kernel
theorem dL_setWater_4 : decode cL_setWater 4 = .ok (.iload_n 2, 1) := by decide +kernel
theorem dL_setWater_5 : decode cL_setWater 5 = .ok (.invokevirtual 7, 3) := by decide +kernel
theorem dL_setWater_8 : decode cL_setWater 8 = .ok (.i2l, 1) := by decide +kernel
theorem dL_setWater_9 : decode cL_setWater 9 = .ok (.lastore, 1) := by decide +kernel
theorem dL_setWater_10 : decode cL_setWater 10 = .ok (.goto 11, 3) := by decide +kernel
theorem dL_setWater_13 : decode cL_setWater 13 = .ok (.astore 4, 2) := by decide +kernel
theorem dL_setWater_15 : decode cL_setWater 15 = .ok (.iconst 1, 1) := by decide +kernel
theorem dL_setWater_16 : decode cL_setWater 16 = .ok (.ireturn, 1) := by decide +kernel
theorem dL_setWater_17 : decode cL_setWater 17 = .ok (.astore 4, 2) := by decide +kernel
theorem dL_setWater_19 : decode cL_setWater 19 = .ok (.iconst 2, 1) := by decide +kernel
theorem dL_setWater_20 : decode cL_setWater 20 = .ok (.ireturn, 1) := by decide +kernel
theorem dL_setWater_21 : decode cL_setWater 21 = .ok (.iconst 0, 1) := by decide +kernel
theorem dL_setWater_22 : decode cL_setWater 22 = .ok (.ireturn, 1) := by decide +kernel
set_option maxRecDepth 20000 in
theorem ggL_weir_X3_weir : GoodIn wsL_weir wsX3_weir := goodIn_ca (goodIn_ca (goodIn_r _ [7, 8, 9, 10, 11, 12, 13, 14, 15, 16, 17, 18, 19, 20, 21, 22, 23, 24, 25, 26, 27, 28, 29, 30, 31, 32, 33, 34, 35] (by decide +kernel) (by decide +kernel)) (goodIn_sub (fun _ h => List.mem_cons_of_mem _ (List.mem_append_left _ (List.mem_append_right _ h))) (by decide +kernel))) (goodIn_sub (fun _ h => List.mem_cons_of_mem _ (List.mem_append_right _ h)) (by decide +kernel))
set_option maxRecDepth 20000 in
theorem gL_weir_X3_weir : GoodIn wsL_weir (wsV RL 17 RX3 yX3_weir wsX3_weir) := goodIn_app (goodIn_of _ (by decide +kernel)) ggL_weir_X3_weir
theorem dL_weir_0 : decode cL_weir 0 = .ok (.aload_n 3, 1) := by decide +kernel
theorem dL_weir_1 : decode cL_weir 1 = .ok (.iconst 0, 1) := by decide +kernel
theorem dL_weir_2 : decode cL_weir 2 = .ok (.aload_n 0, 1) := by decide +kernel
theorem dL_weir_3 : decode cL_weir 3 = .ok (.iload_n 1, 1) := by decide +kernel
theorem dL_weir_4 : decode cL_weir 4 = .ok (.iload_n 2, 1) := by decide +kernel
theorem dL_weir_5 : decode cL_weir 5 = .ok (.invokevirtual 17, 3) := by decide +kernel
theorem dL_weir_8 : decode cL_weir 8 = .ok (.i2l, 1) := by decide +kernel
theorem dL_weir_9 : decode cL_weir 9 = .ok (.lastore, 1) := by decide +kernel
theorem dL_weir_10 : decode cL_weir 10 = .ok (.goto 11, 3) := by decide +kernel
theorem dL_weir_13 : decode cL_weir 13 = .ok (.astore 4, 2) := by decide +kernel
theorem dL_weir_15 : decode cL_weir 15 = .ok (.iconst 1, 1) := by decide +kernel
theorem dL_weir_16 : decode cL_weir 16 = .ok (.ireturn, 1) := by decide +kernel
theorem dL_weir_17 : decode cL_weir 17 = .ok (.astore 4, 2) := by decide +kernel
theorem dL_weir_19 : decode cL_weir 19 = .ok (.iconst 2, 1) := by decide +kernel
theorem dL_weir_20 : decode cL_weir 20 = .ok (.ireturn, 1) := by decide +kernel
theorem dL_weir_21 : decode cL_weir 21 = .ok (.iconst 0, 1) := by decide +kernel
theorem dL_weir_22 : decode cL_weir 22 = .ok (.ireturn, 1) := by decide +kernel
set_option maxRecDepth 20000 in
theorem ggL_launch_X3_launch : GoodIn wsL_launch wsX3_launch := goodIn_ca (goodIn_ca (goodIn_r _ [7, 8, 9, 10, 11, 12, 13, 14, 15, 16, 17, 18, 19, 20, 21, 22, 23, 24, 25, 26, 27, 28, 29, 30, 31, 32, 33, 34, 35, 36, 37, 38, 39, 40, 41, 42, 43, 44, 45, 46, 47, 48, 49, 50, 51, 52, 53, 54, 55] (by decide +kernel) (by decide +kernel)) (goodIn_sub (fun _ h => List.mem_cons_of_mem _ (List.mem_append_left _ (List.mem_append_right _ h))) (by decide +kernel))) (goodIn_sub (fun _ h => List.mem_cons_of_mem _ (List.mem_append_right _ h)) (by decide +kernel))
set_option maxRecDepth 20000 in
theorem gL_launch_X3_launch : GoodIn wsL_launch (wsV RL 22 RX3 yX3_launch wsX3_launch) := goodIn_app (goodIn_of _ (by decide +kernel)) ggL_launch_X3_launch
theorem dL_launch_0 : decode cL_launch 0 = .ok (.aload_n 3, 1) := by decide +kernel
theorem dL_launch_1 : decode cL_launch 1 = .ok (.iconst 0, 1) := by decide +kernel
theorem dL_launch_2 : decode cL_launch 2 = .ok (.aload_n 0, 1) := by decide +kernel
theorem dL_launch_3 : decode cL_launch 3 = .ok (.iload_n 1, 1) := by decide +kernel
theorem dL_launch_4 : decode cL_launch 4 = .ok (.iload_n 2, 1) := by decide +kernel
theorem dL_launch_5 : decode cL_launch 5 = .ok (.invokevirtual 22, 3) := by decide +kernel
theorem dL_launch_8 : decode cL_launch 8 = .ok (.i2l, 1) := by decide +kernel
theorem dL_launch_9 : decode cL_launch 9 = .ok (.lastore, 1) := by decide +kernel
theorem dL_launch_10 : decode cL_launch 10 = .ok (.goto 11, 3) := by decide +kernel
theorem dL_launch_13 : decode cL_launch 13 = .ok (.astore 4, 2) := by decide +kernel
theorem dL_launch_15 : decode cL_launch 15 = .ok (.iconst 1, 1) := by decide +kernel
theorem dL_launch_16 : decode cL_launch 16 = .ok (.ireturn, 1) := by decide +kernel
theorem dL_launch_17 : decode cL_launch 17 = .ok (.astore 4, 2) := by decide +kernel
theorem dL_launch_19 : decode cL_launch 19 = .ok (.iconst 2, 1) := by decide +kernel
theorem dL_launch_20 : decode cL_launch 20 = .ok (.ireturn, 1) := by decide +kernel
theorem dL_launch_21 : decode cL_launch 21 = .ok (.iconst 0, 1) := by decide +kernel
theorem dL_launch_22 : decode cL_launch 22 = .ok (.ireturn, 1) := by decide +kernel
set_option maxRecDepth 20000 in
theorem ggL_paddle_X3_paddle : GoodIn wsL_paddle wsX3_paddle := goodIn_ca (goodIn_ca (goodIn_r _ [7, 8, 9, 10, 11, 12, 13, 14, 15, 16, 17, 18, 19, 20, 21, 22, 6, 23, 24, 25, 26, 27, 28, 29, 30, 31, 32, 33, 34, 35, 36, 37, 38, 39, 40, 41, 42, 43, 44, 45, 46, 47, 48] (by decide +kernel) (by decide +kernel)) (goodIn_sub (fun _ h => List.mem_cons_of_mem _ (List.mem_append_left _ (List.mem_append_right _ h))) (by decide +kernel))) (goodIn_sub (fun _ h => List.mem_cons_of_mem _ (List.mem_append_right _ h)) (by decide +kernel))
set_option maxRecDepth 20000 in
theorem gL_paddle_X3_paddle : GoodIn wsL_paddle (wsV RL 25 RX3 yX3_paddle wsX3_paddle) := goodIn_app (goodIn_of _ (by decide +kernel)) ggL_paddle_X3_paddle
theorem dL_paddle_0 : decode cL_paddle 0 = .ok (.aload 4, 2) := by decide +kernel
theorem dL_paddle_2 : decode cL_paddle 2 = .ok (.iconst 0, 1) := by decide +kernel
theorem dL_paddle_3 : decode cL_paddle 3 = .ok (.aload_n 0, 1) := by decide +kernel
theorem dL_paddle_4 : decode cL_paddle 4 = .ok (.iload_n 1, 1) := by decide +kernel
theorem dL_paddle_5 : decode cL_paddle 5 = .ok (.iload_n 2, 1) := by decide +kernel
theorem dL_paddle_6 : decode cL_paddle 6 = .ok (.iload_n 3, 1) := by decide +kernel
theorem dL_paddle_7 : decode cL_paddle 7 = .ok (.invokevirtual 25, 3) := by decide +kernel
theorem dL_paddle_10 : decode cL_paddle 10 = .ok (.i2l, 1) := by decide +kernel
theorem dL_paddle_11 : decode cL_paddle 11 = .ok (.lastore, 1) := by decide +kernel
theorem dL_paddle_12 : decode cL_paddle 12 = .ok (.goto 11, 3) := by decide +kernel
theorem dL_paddle_15 : decode cL_paddle 15 = .ok (.astore 5, 2) := by decide +kernel
theorem dL_paddle_17 : decode cL_paddle 17 = .ok (.iconst 1, 1) := by decide +kernel
theorem dL_paddle_18 : decode cL_paddle 18 = .ok (.ireturn, 1) := by decide +kernel
theorem dL_paddle_19 : decode cL_paddle 19 = .ok (.astore 5, 2) := by decide +kernel
theorem dL_paddle_21 : decode cL_paddle 21 = .ok (.iconst 2, 1) := by decide +kernel
theorem dL_paddle_22 : decode cL_paddle 22 = .ok (.ireturn, 1) := by decide +kernel
theorem dL_paddle_23 : decode cL_paddle 23 = .ok (.iconst 0, 1) := by decide +kernel
theorem dL_paddle_24 : decode cL_paddle 24 = .ok (.ireturn, 1) := by decide +kernel
set_option maxRecDepth 20000 in
theorem ggL_tar_X3_tar : GoodIn wsL_tar wsX3_tar := goodIn_ca (goodIn_ca (goodIn_r _ [7, 8, 9, 10, 11, 12, 13, 14, 15, 16, 17, 18, 19, 20, 21, 22, 23, 24, 25, 26, 27, 28, 29, 30, 31, 32, 33, 34, 35, 36, 37, 38, 39, 40, 41, 42, 43, 44, 45, 46, 47, 48, 49] (by decide +kernel) (by decide +kernel)) (goodIn_sub (fun _ h => List.mem_cons_of_mem _ (List.mem_append_left _ (List.mem_append_right _ h))) (by decide +kernel))) (goodIn_sub (fun _ h => List.mem_cons_of_mem _ (List.mem_append_right _ h)) (by decide +kernel))
set_option maxRecDepth 20000 in
theorem gL_tar_X3_tar : GoodIn wsL_tar (wsV RL 29 RX3 yX3_tar wsX3_tar) := goodIn_app (goodIn_of _ (by decide +kernel)) ggL_tar_X3_tar
theorem dL_tar_0 : decode cL_tar 0 = .ok (.aload_n 2, 1) := by decide +kernel
theorem dL_tar_1 : decode cL_tar 1 = .ok (.iconst 0, 1) := by decide +kernel
theorem dL_tar_2 : decode cL_tar 2 = .ok (.aload_n 0, 1) := by decide +kernel
theorem dL_tar_3 : decode cL_tar 3 = .ok (.iload_n 1, 1) := by decide +kernel
theorem dL_tar_4 : decode cL_tar 4 = .ok (.invokevirtual 29, 3) := by decide +kernel
theorem dL_tar_7 : decode cL_tar 7 = .ok (.i2l, 1) := by decide +kernel
theorem dL_tar_8 : decode cL_tar 8 = .ok (.lastore, 1) := by decide +kernel
theorem dL_tar_9 : decode cL_tar 9 = .ok (.goto 9, 3) := by decide +kernel
theorem dL_tar_12 : decode cL_tar 12 = .ok (.astore_n 3, 1) := by decide +kernel
theorem dL_tar_13 : decode cL_tar 13 = .ok (.iconst 1, 1) := by decide +kernel
theorem dL_tar_14 : decode cL_tar 14 = .ok (.ireturn, 1) := by decide +kernel
theorem dL_tar_15 : decode cL_tar 15 = .ok (.astore_n 3, 1) := by decide +kernel
theorem dL_tar_16 : decode cL_tar 16 = .ok (.iconst 2, 1) := by decide +kernel
theorem dL_tar_17 : decode cL_tar 17 = .ok (.ireturn, 1) := by decide +kernel
theorem dL_tar_18 : decode cL_tar 18 = .ok (.iconst 0, 1) := by decide +kernel
theorem dL_tar_19 : decode cL_tar 19 = .ok (.ireturn, 1) := by decide +kernel
set_option maxRecDepth 20000 in
theorem ggL_boat_X3_boat : GoodIn wsL_boat wsX3_boat := goodIn_ca (goodIn_r _ [6, 7, 8, 9, 10, 11, 12, 13, 14, 15, 16, 17, 18, 19, 20, 21, 22, 23, 24, 25, 26, 27, 28, 29, 30, 31, 32, 33, 34, 35, 36, 37, 38, 39, 40, 41, 42, 43, 44, 45, 46, 47, 48, 49, 50, 51, 52] (by decide +kernel) (by decide +kernel)) (goodIn_sub (fun _ h => List.mem_cons_of_mem _ (List.mem_append_right _ h)) (by decide +kernel))
set_option maxRecDepth 20000 in
theorem gL_boat_X3_boat : GoodIn wsL_boat (wsV RL 33 RX3 yX3_boat wsX3_boat) := goodIn_app (goodIn_of _ (by decide +kernel)) ggL_boat_X3_boat
theorem dL_boat_0 : decode cL_boat 0 = .ok (.aload_n 3, 1) := by decide +kernel
theorem dL_boat_1 : decode cL_boat 1 = .ok (.iconst 0, 1) := by decide +kernel
theorem dL_boat_2 : decode cL_boat 2 = .ok (.aload_n 0, 1) := by decide +kernel
theorem dL_boat_3 : decode cL_boat 3 = .ok (.iload_n 1, 1) := by decide +kernel
theorem dL_boat_4 : decode cL_boat 4 = .ok (.iload_n 2, 1) := by decide +kernel
theorem dL_boat_5 : decode cL_boat 5 = .ok (.invokevirtual 33, 3) := by decide +kernel
theorem dL_boat_8 : decode cL_boat 8 = .ok (.i2l, 1) := by decide +kernel
theorem dL_boat_9 : decode cL_boat 9 = .ok (.lastore, 1) := by decide +kernel
theorem dL_boat_10 : decode cL_boat 10 = .ok (.goto 7, 3) := by decide +kernel
theorem dL_boat_13 : decode cL_boat 13 = .ok (.astore 4, 2) := by decide +kernel
theorem dL_boat_15 : decode cL_boat 15 = .ok (.iconst 1, 1) := by decide +kernel
theorem dL_boat_16 : decode cL_boat 16 = .ok (.ireturn, 1) := by decide +kernel
theorem dL_boat_17 : decode cL_boat 17 = .ok (.iconst 0, 1) := by decide +kernel
theorem dL_boat_18 : decode cL_boat 18 = .ok (.ireturn, 1) := by decide +kernel
set_option maxRecDepth 20000 in
theorem ggL_count_X3_count : GoodIn wsL_count wsX3_count := goodIn_ca (goodIn_r _ [6, 7, 8, 9, 10, 11, 12, 5, 13, 14, 15, 16, 17, 18, 19, 20, 21, 22, 23, 24, 25, 26, 27, 28, 29, 30, 31, 32, 33, 34, 35, 36, 37, 38, 39, 40, 41, 42, 43, 44, 45, 46, 47, 48, 49, 50, 51, 52, 53, 54, 55, 56, 57, 58, 59, 60, 61, 62, 63, 64, 65, 66, 67, 68, 69, 70, 71, 72] (by decide +kernel) (by decide +kernel)) (goodIn_sub (fun _ h => List.mem_cons_of_mem _ (List.mem_append_right _ h)) (by decide +kernel))
set_option maxRecDepth 20000 in
theorem gL_count_X3_count : GoodIn wsL_count (wsV RL 36 RX3 yX3_count wsX3_count) := goodIn_app (goodIn_of _ (by decide +kernel)) ggL_count_X3_count
theorem dL_count_0 : decode cL_count 0 = .ok (.aload_n 2, 1) := by decide +kernel
theorem dL_count_1 : decode cL_count 1 = .ok (.iconst 0, 1) := by decide +kernel
theorem dL_count_2 : decode cL_count 2 = .ok (.aload_n 0, 1) := by decide +kernel
theorem dL_count_3 : decode cL_count 3 = .ok (.iload_n 1, 1) := by decide +kernel
theorem dL_count_4 : decode cL_count 4 = .ok (.invokevirtual 36, 3) := by decide +kernel
theorem dL_count_7 : decode cL_count 7 = .ok (.i2l, 1) := by decide +kernel
theorem dL_count_8 : decode cL_count 8 = .ok (.lastore, 1) := by decide +kernel
theorem dL_count_9 : decode cL_count 9 = .ok (.goto 6, 3) := by decide +kernel
theorem dL_count_12 : decode cL_count 12 = .ok (.astore_n 3, 1) := by decide +kernel
theorem dL_count_13 : decode cL_count 13 = .ok (.iconst 1, 1) := by decide +kernel
theorem dL_count_14 : decode cL_count 14 = .ok (.ireturn, 1) := by decide +kernel
theorem dL_count_15 : decode cL_count 15 = .ok (.iconst 0, 1) := by decide +kernel
theorem dL_count_16 : decode cL_count 16 = .ok (.ireturn, 1) := by decide +kernel
set_option maxRecDepth 20000 in
theorem ggL_next_X3_next : GoodIn wsL_next wsX3_next := goodIn_ca (goodIn_r _ [6, 7, 8, 9, 10, 11, 12, 13, 14, 15, 16, 17, 18, 19, 20, 21, 22, 23] (by decide +kernel) (by decide +kernel)) (goodIn_sub (fun _ h => List.mem_cons_of_mem _ (List.mem_append_right _ h)) (by decide +kernel))
set_option maxRecDepth 20000 in
theorem gL_next_X3_next : GoodIn wsL_next (wsV RL 39 RX3 yX3_next wsX3_next) := goodIn_app (goodIn_of _ (by decide +kernel)) ggL_next_X3_next
theorem dL_next_0 : decode cL_next 0 = .ok (.aload_n 2, 1) := by decide +kernel
theorem dL_next_1 : decode cL_next 1 = .ok (.iconst 0, 1) := by decide +kernel
theorem dL_next_2 : decode cL_next 2 = .ok (.aload_n 0, 1) := by decide +kernel
theorem dL_next_3 : decode cL_next 3 = .ok (.iload_n 1, 1) := by decide +kernel
theorem dL_next_4 : decode cL_next 4 = .ok (.invokevirtual 39, 3) := by decide +kernel
theorem dL_next_7 : decode cL_next 7 = .ok (.i2l, 1) := by decide +kernel
theorem dL_next_8 : decode cL_next 8 = .ok (.lastore, 1) := by decide +kernel
theorem dL_next_9 : decode cL_next 9 = .ok (.goto 6, 3) := by decide +kernel
theorem dL_next_12 : decode cL_next 12 = .ok (.astore_n 3, 1) := by decide +kernel
theorem dL_next_13 : decode cL_next 13 = .ok (.iconst 1, 1) := by decide +kernel
theorem dL_next_14 : decode cL_next 14 = .ok (.ireturn, 1) := by decide +kernel
theorem dL_next_15 : decode cL_next 15 = .ok (.iconst 0, 1) := by decide +kernel
theorem dL_next_16 : decode cL_next 16 = .ok (.ireturn, 1) := by decide +kernel
set_option maxRecDepth 20000 in
theorem ggL_rank_X3_rank : GoodIn wsL_rank wsX3_rank := goodIn_ca (goodIn_r _ [6, 7, 8, 9, 10, 11, 12, 13, 14, 15, 16, 17, 18, 19, 20, 21, 22, 23, 24, 25, 26, 27, 28, 29, 30, 31, 32, 33, 34, 35, 36, 37, 38, 39, 40, 41, 42, 43, 44, 45, 46, 47, 48, 49, 50, 51, 52] (by decide +kernel) (by decide +kernel)) (goodIn_sub (fun _ h => List.mem_cons_of_mem _ (List.mem_append_right _ h)) (by decide +kernel))
set_option maxRecDepth 20000 in
theorem gL_rank_X3_rank : GoodIn wsL_rank (wsV RL 42 RX3 yX3_rank wsX3_rank) := goodIn_app (goodIn_of _ (by decide +kernel)) ggL_rank_X3_rank
theorem dL_rank_0 : decode cL_rank 0 = .ok (.aload_n 2, 1) := by decide +kernel
theorem dL_rank_1 : decode cL_rank 1 = .ok (.iconst 0, 1) := by decide +kernel
theorem dL_rank_2 : decode cL_rank 2 = .ok (.aload_n 0, 1) := by decide +kernel
theorem dL_rank_3 : decode cL_rank 3 = .ok (.iload_n 1, 1) := by decide +kernel
theorem dL_rank_4 : decode cL_rank 4 = .ok (.invokevirtual 42, 3) := by decide +kernel
theorem dL_rank_7 : decode cL_rank 7 = .ok (.i2l, 1) := by decide +kernel
theorem dL_rank_8 : decode cL_rank 8 = .ok (.lastore, 1) := by decide +kernel
theorem dL_rank_9 : decode cL_rank 9 = .ok (.goto 6, 3) := by decide +kernel
theorem dL_rank_12 : decode cL_rank 12 = .ok (.astore_n 3, 1) := by decide +kernel
theorem dL_rank_13 : decode cL_rank 13 = .ok (.iconst 1, 1) := by decide +kernel
theorem dL_rank_14 : decode cL_rank 14 = .ok (.ireturn, 1) := by decide +kernel
theorem dL_rank_15 : decode cL_rank 15 = .ok (.iconst 0, 1) := by decide +kernel
theorem dL_rank_16 : decode cL_rank 16 = .ok (.ireturn, 1) := by decide +kernel
set_option maxRecDepth 20000 in
theorem ggL_go_X3_go : GoodIn wsL_go wsX3_go := goodIn_ca (goodIn_r _ [6, 7, 8, 9, 10, 11, 12, 13, 14, 15, 16, 17, 18, 19, 20, 21, 22, 23, 24, 25, 26, 27, 28, 29, 30, 31, 32, 33, 34, 35, 36, 37, 38, 39, 40, 41, 42, 43, 44, 45, 46, 47, 48, 49, 50, 51, 52, 53, 54, 55, 56, 57, 58, 59, 60, 61, 62, 63, 64, 65, 66, 67, 68, 69, 70, 71, 72, 73, 74, 75, 76, 77, 78, 79, 80, 81, 82, 83, 84, 85, 86, 87, 88, 89, 90, 91, 92, 93, 94, 95, 96, 97, 98, 99, 100, 101, 102, 103, 104, 105, 106, 107, 108, 109, 110, 111, 112, 113, 114, 115] (by decide +kernel) (by decide +kernel)) (goodIn_sub (fun _ h => List.mem_cons_of_mem _ (List.mem_append_right _ h)) (by decide +kernel))
set_option maxRecDepth 20000 in
theorem gL_go_X3_go : GoodIn wsL_go (wsV RL 45 RX3 yX3_go wsX3_go) := goodIn_app (goodIn_of _ (by decide +kernel)) ggL_go_X3_go
theorem dL_go_0 : decode cL_go 0 = .ok (.aload_n 2, 1) := by decide +kernel
theorem dL_go_1 : decode cL_go 1 = .ok (.iconst 0, 1) := by decide +kernel
theorem dL_go_2 : decode cL_go 2 = .ok (.aload_n 0, 1) := by decide +kernel
theorem dL_go_3 : decode cL_go 3 = .ok (.iload_n 1, 1) := by decide +kernel
theorem dL_go_4 : decode cL_go 4 = .ok (.invokevirtual 45, 3) := by decide +kernel
theorem dL_go_7 : decode cL_go 7 = .ok (.i2l, 1) := by decide +kernel
theorem dL_go_8 : decode cL_go 8 = .ok (.lastore, 1) := by decide +kernel
theorem dL_go_9 : decode cL_go 9 = .ok (.goto 6, 3) := by decide +kernel
theorem dL_go_12 : decode cL_go 12 = .ok (.astore_n 3, 1) := by decide +kernel
theorem dL_go_13 : decode cL_go 13 = .ok (.iconst 1, 1) := by decide +kernel
theorem dL_go_14 : decode cL_go 14 = .ok (.ireturn, 1) := by decide +kernel
theorem dL_go_15 : decode cL_go 15 = .ok (.iconst 0, 1) := by decide +kernel
theorem dL_go_16 : decode cL_go 16 = .ok (.ireturn, 1) := by decide +kernel
set_option maxRecDepth 20000 in
theorem ggL_arrives_X3_arrives : GoodIn wsL_arrives wsX3_arrives := goodIn_ca (goodIn_r _ [6, 7, 8, 9, 10, 11, 12, 13, 14, 15, 16, 17, 18, 19, 20, 21, 22, 23, 24, 25, 26, 27, 28, 29, 30, 31, 32, 33, 34, 35, 36, 37, 38, 39, 40, 41, 42, 43, 44, 45, 46, 47, 48, 49, 50, 51, 52, 53, 54, 55, 56, 57, 58, 59, 60, 61, 62, 63, 64, 65, 66, 67, 68, 69, 70, 71, 72, 73, 74, 75, 76, 77, 78, 79, 80, 81, 82, 83, 84, 85, 86, 87, 88, 89, 90, 91, 92, 93, 94, 95, 96, 97, 98, 99, 100, 101, 102, 103, 104, 105, 106, 107, 108, 109, 110, 111, 112, 113, 114, 115, 116, 117, 118, 119, 120] (by decide +kernel) (by decide +kernel)) (goodIn_sub (fun _ h => List.mem_cons_of_mem _ (List.mem_append_right _ h)) (by decide +kernel))
set_option maxRecDepth 20000 in
theorem gL_arrives_X3_arrives : GoodIn wsL_arrives (wsV RL 48 RX3 yX3_arrives wsX3_arrives) := goodIn_app (goodIn_of _ (by decide +kernel)) ggL_arrives_X3_arrives
theorem dL_arrives_0 : decode cL_arrives 0 = .ok (.aload_n 2, 1) := by decide +kernel
theorem dL_arrives_1 : decode cL_arrives 1 = .ok (.iconst 0, 1) := by decide +kernel
theorem dL_arrives_2 : decode cL_arrives 2 = .ok (.aload_n 0, 1) := by decide +kernel
theorem dL_arrives_3 : decode cL_arrives 3 = .ok (.iload_n 1, 1) := by decide +kernel
theorem dL_arrives_4 : decode cL_arrives 4 = .ok (.invokevirtual 48, 3) := by decide +kernel
theorem dL_arrives_7 : decode cL_arrives 7 = .ok (.i2l, 1) := by decide +kernel
theorem dL_arrives_8 : decode cL_arrives 8 = .ok (.lastore, 1) := by decide +kernel
theorem dL_arrives_9 : decode cL_arrives 9 = .ok (.goto 6, 3) := by decide +kernel
theorem dL_arrives_12 : decode cL_arrives 12 = .ok (.astore_n 3, 1) := by decide +kernel
theorem dL_arrives_13 : decode cL_arrives 13 = .ok (.iconst 1, 1) := by decide +kernel
theorem dL_arrives_14 : decode cL_arrives 14 = .ok (.ireturn, 1) := by decide +kernel
theorem dL_arrives_15 : decode cL_arrives 15 = .ok (.iconst 0, 1) := by decide +kernel
theorem dL_arrives_16 : decode cL_arrives 16 = .ok (.ireturn, 1) := by decide +kernel
set_option maxRecDepth 20000 in
theorem ggL_foresee_X3_foresee : GoodIn wsL_foresee wsX3_foresee := goodIn_ca (goodIn_ca (goodIn_r _ [7, 8, 9, 10, 11, 12, 13, 14, 15, 16, 17, 18, 19, 20, 21, 22, 23, 24, 25, 26, 27, 28, 29, 30, 31, 32, 33, 34, 35, 36, 37, 38, 39, 40, 41, 42, 43, 44, 45, 46, 47, 48, 49, 50, 51, 52, 53, 54, 55, 56, 57, 58, 59, 60, 61, 62, 63, 64, 65, 66, 67, 68, 69, 70, 71, 72, 73, 74, 75, 76, 77, 78, 79, 80, 81, 82, 83, 84, 85, 86, 87, 88, 89, 90, 91, 92, 93, 94, 95, 96, 97, 98, 99, 100, 101, 102, 103, 104, 6, 105, 106, 107, 108, 109, 110, 111, 112, 113, 114, 115, 116, 117, 118, 119, 120, 121, 122, 123, 124, 125, 126, 127, 128, 129, 130, 131, 132, 133, 134, 135, 136, 137, 138, 139, 140, 141, 142, 143, 144, 145, 146, 147, 148, 149, 150, 151, 152, 153, 154, 155, 156] (by decide +kernel) (by decide +kernel)) (goodIn_sub (fun _ h => List.mem_cons_of_mem _ (List.mem_append_left _ (List.mem_append_right _ h))) (by decide +kernel))) (goodIn_sub (fun _ h => List.mem_cons_of_mem _ (List.mem_append_right _ h)) (by decide +kernel))
set_option maxRecDepth 20000 in
theorem gL_foresee_X3_foresee : GoodIn wsL_foresee (wsV RL 51 RX3 yX3_foresee wsX3_foresee) := goodIn_app (goodIn_of _ (by decide +kernel)) ggL_foresee_X3_foresee
theorem dL_foresee_0 : decode cL_foresee 0 = .ok (.aload_n 3, 1) := by decide +kernel
theorem dL_foresee_1 : decode cL_foresee 1 = .ok (.iconst 0, 1) := by decide +kernel
theorem dL_foresee_2 : decode cL_foresee 2 = .ok (.aload_n 0, 1) := by decide +kernel
theorem dL_foresee_3 : decode cL_foresee 3 = .ok (.iload_n 1, 1) := by decide +kernel
theorem dL_foresee_4 : decode cL_foresee 4 = .ok (.iload_n 2, 1) := by decide +kernel
theorem dL_foresee_5 : decode cL_foresee 5 = .ok (.invokevirtual 51, 3) := by decide +kernel
theorem dL_foresee_8 : decode cL_foresee 8 = .ok (.i2l, 1) := by decide +kernel
theorem dL_foresee_9 : decode cL_foresee 9 = .ok (.lastore, 1) := by decide +kernel
theorem dL_foresee_10 : decode cL_foresee 10 = .ok (.goto 11, 3) := by decide +kernel
theorem dL_foresee_13 : decode cL_foresee 13 = .ok (.astore 4, 2) := by decide +kernel
theorem dL_foresee_15 : decode cL_foresee 15 = .ok (.iconst 1, 1) := by decide +kernel
theorem dL_foresee_16 : decode cL_foresee 16 = .ok (.ireturn, 1) := by decide +kernel
theorem dL_foresee_17 : decode cL_foresee 17 = .ok (.astore 4, 2) := by decide +kernel
theorem dL_foresee_19 : decode cL_foresee 19 = .ok (.iconst 2, 1) := by decide +kernel
theorem dL_foresee_20 : decode cL_foresee 20 = .ok (.ireturn, 1) := by decide +kernel
theorem dL_foresee_21 : decode cL_foresee 21 = .ok (.iconst 0, 1) := by decide +kernel
theorem dL_foresee_22 : decode cL_foresee 22 = .ok (.ireturn, 1) := by decide +kernel
set_option maxRecDepth 20000 in
theorem ggL_advise_X3_advise : GoodIn wsL_advise wsX3_advise := goodIn_ca (goodIn_ca (goodIn_r _ [7, 8, 9, 10, 11, 12, 13, 14, 15, 16, 17, 18, 19, 20, 21, 6, 22, 23, 24, 25, 26, 27, 28, 29, 30, 31, 32, 33, 34, 35, 36, 37, 38, 39, 40, 41, 42, 43, 44, 45, 46, 47, 48, 49, 50, 51, 52, 53, 54, 55, 56, 57, 58, 59, 60, 61, 62, 63, 64, 65, 66, 67, 68, 69, 70, 71, 72, 73, 74, 75, 76, 77, 78, 79, 80, 81, 82, 83, 84, 85, 86, 87, 88, 89, 90, 91, 92, 93, 94, 95, 96, 97, 98, 99, 100, 101, 102, 103, 104, 105, 106, 107, 108, 109, 110, 111, 112, 113, 114, 115, 116, 117, 118, 119, 120, 121, 122, 123, 124, 125, 126, 127, 128] (by decide +kernel) (by decide +kernel)) (goodIn_sub (fun _ h => List.mem_cons_of_mem _ (List.mem_append_left _ (List.mem_append_right _ h))) (by decide +kernel))) (goodIn_sub (fun _ h => List.mem_cons_of_mem _ (List.mem_append_right _ h)) (by decide +kernel))
set_option maxRecDepth 20000 in
theorem gL_advise_X3_advise : GoodIn wsL_advise (wsV RL 54 RX3 yX3_advise wsX3_advise) := goodIn_app (goodIn_of _ (by decide +kernel)) ggL_advise_X3_advise
theorem dL_advise_0 : decode cL_advise 0 = .ok (.aload_n 3, 1) := by decide +kernel
theorem dL_advise_1 : decode cL_advise 1 = .ok (.iconst 0, 1) := by decide +kernel
theorem dL_advise_2 : decode cL_advise 2 = .ok (.aload_n 0, 1) := by decide +kernel
theorem dL_advise_3 : decode cL_advise 3 = .ok (.iload_n 1, 1) := by decide +kernel
theorem dL_advise_4 : decode cL_advise 4 = .ok (.iload_n 2, 1) := by decide +kernel
theorem dL_advise_5 : decode cL_advise 5 = .ok (.invokevirtual 54, 3) := by decide +kernel
theorem dL_advise_8 : decode cL_advise 8 = .ok (.i2l, 1) := by decide +kernel
theorem dL_advise_9 : decode cL_advise 9 = .ok (.lastore, 1) := by decide +kernel
theorem dL_advise_10 : decode cL_advise 10 = .ok (.goto 11, 3) := by decide +kernel
theorem dL_advise_13 : decode cL_advise 13 = .ok (.astore 4, 2) := by decide +kernel
theorem dL_advise_15 : decode cL_advise 15 = .ok (.iconst 1, 1) := by decide +kernel
theorem dL_advise_16 : decode cL_advise 16 = .ok (.ireturn, 1) := by decide +kernel
theorem dL_advise_17 : decode cL_advise 17 = .ok (.astore 4, 2) := by decide +kernel
theorem dL_advise_19 : decode cL_advise 19 = .ok (.iconst 2, 1) := by decide +kernel
theorem dL_advise_20 : decode cL_advise 20 = .ok (.ireturn, 1) := by decide +kernel
theorem dL_advise_21 : decode cL_advise 21 = .ok (.iconst 0, 1) := by decide +kernel
theorem dL_advise_22 : decode cL_advise 22 = .ok (.ireturn, 1) := by decide +kernel
set_option maxRecDepth 20000 in
theorem ggL_law_X3_init : GoodIn wsL_law wsX3_init := goodIn_r _ [9, 10, 11, 12, 13, 14, 15, 16, 17, 18, 19, 20, 21, 22, 23, 24, 25, 26, 27, 28, 29, 30, 31, 32, 33, 34, 35, 36, 37, 38, 39, 40, 41, 42, 43, 44, 45, 46, 47, 48, 49, 50, 51, 52, 53, 54, 534, 535, 536, 537, 522, 523, 524, 538, 539, 540, 541, 542, 543, 544, 545, 546, 547, 548, 549, 550, 551, 552] (by decide +kernel) (by decide +kernel)
set_option maxRecDepth 20000 in
theorem gL_law_X3_init : GoodIn wsL_law (wsX3_init) := ggL_law_X3_init
set_option maxRecDepth 20000 in
theorem ggL_law_X5_init : GoodIn wsL_law wsX5_init := goodIn_r _ [57, 58, 11, 12, 25, 59, 60, 61, 62, 63, 64, 65, 66, 67, 68, 69, 70, 71, 72, 73, 74, 75, 76, 77, 78, 79, 80, 81, 525, 526, 527, 528, 529, 530, 531, 532, 533, 553, 554, 555, 556, 557, 558, 559, 560, 561, 562, 563, 564] (by decide +kernel) (by decide +kernel)
set_option maxRecDepth 20000 in
theorem gL_law_X5_init : GoodIn wsL_law (wsX5_init) := ggL_law_X5_init
set_option maxRecDepth 20000 in
theorem ggL_law_L_setWater : GoodIn wsL_law wsL_setWater := goodIn_ca (goodIn_ca (goodIn_r _ [85, 86, 87, 88, 89, 90, 2, 91, 92, 93, 94, 95, 16, 96, 97, 98, 15, 99, 522, 523, 524, 534, 535, 536, 537] (by decide +kernel) (by decide +kernel)) (goodIn_sub (fun _ h => List.mem_append_left _ (List.mem_append_left _ (List.mem_append_right _ h))) (by decide +kernel))) (goodIn_sub (fun _ h => List.mem_append_left _ (List.mem_append_right _ h)) (by decide +kernel))
set_option maxRecDepth 20000 in
theorem gL_law_L_setWater : GoodIn wsL_law (va_wsS RL 61 yL_setWater wsL_setWater) := goodIn_app (goodIn_of _ (by decide +kernel)) ggL_law_L_setWater
set_option maxRecDepth 20000 in
theorem ggL_law_X5_setWater : GoodIn wsL_law wsX5_setWater := goodIn_r _ [103, 104, 59, 105, 106, 5, 107, 108, 109, 110, 111, 525, 526, 527, 528, 529, 530, 531, 532, 533] (by decide +kernel) (by decide +kernel)
set_option maxRecDepth 20000 in
theorem gL_law_X5_setWater : GoodIn wsL_law (wsV RL 66 RX5 yX5_setWater wsX5_setWater) := goodIn_app (goodIn_of _ (by decide +kernel)) ggL_law_X5_setWater
set_option maxRecDepth 20000 in
theorem ggL_law_X5_thrown : GoodIn wsL_law wsX5_thrown := goodIn_r _ [115, 104, 525, 526, 527, 528, 529, 530, 531, 532, 533] (by decide +kernel) (by decide +kernel)
set_option maxRecDepth 20000 in
theorem gL_law_X5_thrown : GoodIn wsL_law (wsV RL 67 RX5 yX5_thrown wsX5_thrown) := goodIn_app (goodIn_of _ (by decide +kernel)) ggL_law_X5_thrown
set_option maxRecDepth 20000 in
theorem ggL_law_L_weir : GoodIn wsL_law wsL_weir := goodIn_ca (goodIn_ca (goodIn_r _ [118, 87, 119, 120, 121, 122, 2, 123, 94, 95, 124, 125, 16, 126, 97, 98, 15, 99, 127, 128, 129, 130, 29, 27, 131, 132, 133, 134, 28, 522, 523, 524, 534, 535, 536, 537] (by decide +kernel) (by decide +kernel)) (goodIn_sub (fun _ h => List.mem_append_left _ (List.mem_append_right _ h)) (by decide +kernel))) (goodIn_sub (fun _ h => List.mem_append_right _ h) (by decide +kernel))
set_option maxRecDepth 20000 in
theorem gL_law_L_weir : GoodIn wsL_law (va_wsS RL 71 yL_weir wsL_weir) := goodIn_app (goodIn_of _ (by decide +kernel)) ggL_law_L_weir
set_option maxRecDepth 20000 in
theorem ggL_law_X5_weir : GoodIn wsL_law wsX5_weir := goodIn_r _ [138, 104, 139, 60, 61, 105, 106, 5, 107, 108, 109, 110, 111, 525, 526, 527, 528, 529, 530, 531, 532, 533] (by decide +kernel) (by decide +kernel)
set_option maxRecDepth 20000 in
theorem gL_law_X5_weir : GoodIn wsL_law (wsV RL 73 RX5 yX5_weir wsX5_weir) := goodIn_app (goodIn_of _ (by decide +kernel)) ggL_law_X5_weir
set_option maxRecDepth 20000 in
theorem ggL_law_L_launch : GoodIn wsL_law wsL_launch := goodIn_ca (goodIn_ca (goodIn_r _ [142, 87, 119, 143, 144, 145, 2, 146, 94, 95, 124, 125, 20, 147, 97, 98, 15, 99, 148, 149, 150, 19, 151, 36, 35, 152, 153, 154, 39, 155, 47, 45, 156, 157, 158, 159, 43, 44, 522, 523, 524, 538, 539, 540, 541, 542, 543, 544, 545, 546, 547, 548, 549, 550, 551, 552] (by decide +kernel) (by decide +kernel)) (goodIn_sub (fun _ h => List.mem_append_left _ (List.mem_append_right _ h)) (by decide +kernel))) (goodIn_sub (fun _ h => List.mem_append_right _ h) (by decide +kernel))
set_option maxRecDepth 20000 in
theorem gL_law_L_launch : GoodIn wsL_law (va_wsS RL 74 yL_launch wsL_launch) := goodIn_app (goodIn_of _ (by decide +kernel)) ggL_law_L_launch
set_option maxRecDepth 20000 in
theorem ggL_law_X5_launch : GoodIn wsL_law wsX5_launch := goodIn_r _ [163, 104, 164, 62, 66, 105, 106, 5, 107, 108, 109, 110, 111, 525, 526, 527, 528, 529, 530, 531, 532, 533, 553, 554, 555, 556, 557, 558, 559, 560, 561, 562, 563, 564] (by decide +kernel) (by decide +kernel)
set_option maxRecDepth 20000 in
theorem gL_law_X5_launch : GoodIn wsL_law (wsV RL 76 RX5 yX5_launch wsX5_launch) := goodIn_app (goodIn_of _ (by decide +kernel)) ggL_law_X5_launch
set_option maxRecDepth 20000 in
theorem ggL_law_L_paddle : GoodIn wsL_law wsL_paddle := goodIn_ca (goodIn_ca (goodIn_r _ [167, 86, 87, 168, 169, 170, 2, 171, 92, 93, 94, 95, 20, 172, 173, 174, 175, 176, 19, 177, 36, 178, 179, 180, 181, 157, 158, 39, 159, 43, 44, 522, 523, 524, 538, 539, 540, 541, 542, 543, 544, 545, 546, 547, 548, 549, 550, 551, 552] (by decide +kernel) (by decide +kernel)) (goodIn_sub (fun _ h => List.mem_append_left _ (List.mem_append_left _ (List.mem_append_right _ h))) (by decide +kernel))) (goodIn_sub (fun _ h => List.mem_append_left _ (List.mem_append_right _ h)) (by decide +kernel))
set_option maxRecDepth 20000 in
theorem gL_law_L_paddle : GoodIn wsL_law (va_wsS RL 77 yL_paddle wsL_paddle) := goodIn_app (goodIn_of _ (by decide +kernel)) ggL_law_L_paddle
set_option maxRecDepth 20000 in
theorem ggL_law_X5_paddle : GoodIn wsL_law wsX5_paddle := goodIn_r _ [185, 104, 66, 186, 187, 188, 5, 189, 164, 105, 106, 107, 108, 109, 110, 111, 190, 191, 192, 193, 525, 526, 527, 528, 529, 530, 531, 532, 533, 553, 554, 555, 556, 557, 558, 559, 560, 561, 562, 563, 564] (by decide +kernel) (by decide +kernel)
set_option maxRecDepth 20000 in
theorem gL_law_X5_paddle : GoodIn wsL_law (wsV RL 80 RX5 yX5_paddle wsX5_paddle) := goodIn_app (goodIn_of _ (by decide +kernel)) ggL_law_X5_paddle
set_option maxRecDepth 20000 in
theorem ggL_law_L_tar : GoodIn wsL_law wsL_tar := goodIn_ca (goodIn_ca (goodIn_r _ [196, 86, 119, 197, 198, 199, 2, 200, 92, 93, 124, 125, 20, 172, 174, 175, 176, 19, 177, 36, 201, 202, 203, 39, 204, 51, 205, 206, 207, 208, 49, 50, 522, 523, 524, 538, 539, 540, 541, 542, 543, 544, 545, 546, 547, 548, 549, 550, 551, 552] (by decide +kernel) (by decide +kernel)) (goodIn_sub (fun _ h => List.mem_append_left _ (List.mem_append_left _ (List.mem_append_right _ h))) (by decide +kernel))) (goodIn_sub (fun _ h => List.mem_append_right _ h) (by decide +kernel))
set_option maxRecDepth 20000 in
theorem gL_law_L_tar : GoodIn wsL_law (va_wsS RL 81 yL_tar wsL_tar) := goodIn_app (goodIn_of _ (by decide +kernel)) ggL_law_L_tar
set_option maxRecDepth 20000 in
theorem ggL_law_X5_tar : GoodIn wsL_law wsX5_tar := goodIn_r _ [212, 104, 66, 186, 187, 188, 5, 189, 164, 105, 106, 107, 108, 109, 110, 111, 213, 214, 215, 65, 216, 77, 525, 526, 527, 528, 529, 530, 531, 532, 533, 553, 554, 555, 556, 557, 558, 559, 560, 561, 562, 563, 564] (by decide +kernel) (by decide +kernel)
set_option maxRecDepth 20000 in
theorem gL_law_X5_tar : GoodIn wsL_law (wsV RL 84 RX5 yX5_tar wsX5_tar) := goodIn_app (goodIn_of _ (by decide +kernel)) ggL_law_X5_tar
set_option maxRecDepth 20000 in
theorem ggL_law_L_boat : GoodIn wsL_law wsL_boat := goodIn_ca (goodIn_r _ [219, 86, 220, 221, 222, 2, 223, 92, 93, 20, 172, 174, 175, 176, 19, 177, 36, 224, 225, 226, 39, 227, 46, 47, 48, 49, 50, 51, 53, 54, 228, 229, 230, 231, 52, 522, 523, 524, 538, 539, 540, 541, 542, 543, 544, 545, 546, 547, 548, 549, 550, 551, 552] (by decide +kernel) (by decide +kernel)) (goodIn_sub (fun _ h => List.mem_append_left _ (List.mem_append_left _ (List.mem_append_right _ h))) (by decide +kernel))
set_option maxRecDepth 20000 in
theorem gL_law_L_boat : GoodIn wsL_law (va_wsS RL 85 yL_boat wsL_boat) := goodIn_app (goodIn_of _ (by decide +kernel)) ggL_law_L_boat
set_option maxRecDepth 20000 in
theorem ggL_law_X5_boat : GoodIn wsL_law wsX5_boat := goodIn_r _ [235, 104, 186, 187, 188, 5, 189, 164, 105, 106, 107, 236, 237, 238, 239, 25, 66, 213, 214, 215, 65, 216, 77, 240, 241, 242, 243, 76, 244, 108, 109, 110, 111, 525, 526, 527, 528, 529, 530, 531, 532, 533, 553, 554, 555, 556, 557, 558, 559, 560, 561, 562, 563, 564] (by decide +kernel) (by decide +kernel)
set_option maxRecDepth 20000 in
theorem gL_law_X5_boat : GoodIn wsL_law (wsV RL 87 RX5 yX5_boat wsX5_boat) := goodIn_app (goodIn_of _ (by decide +kernel)) ggL_law_X5_boat
set_option maxRecDepth 20000 in
theorem ggL_law_L_count : GoodIn wsL_law wsL_count := goodIn_ca (goodIn_r _ [247, 86, 248, 249, 250, 2, 251, 92, 93, 20, 252, 253, 254, 255, 256, 147, 16, 126, 257, 258, 259, 19, 260, 36, 35, 261, 202, 203, 39, 204, 51, 262, 263, 264, 265, 266, 267, 268, 269, 270, 271, 272, 273, 274, 275, 276, 229, 230, 231, 52, 50, 522, 523, 524, 538, 539, 540, 534, 535, 536, 537, 541, 542, 543, 544, 545, 546, 547, 548, 549, 550, 551, 552] (by decide +kernel) (by decide +kernel)) (goodIn_sub (fun _ h => List.mem_append_left _ (List.mem_append_left _ (List.mem_append_right _ h))) (by decide +kernel))
set_option maxRecDepth 20000 in
theorem gL_law_L_count : GoodIn wsL_law (va_wsS RL 88 yL_count wsL_count) := goodIn_app (goodIn_of _ (by decide +kernel)) ggL_law_L_count
set_option maxRecDepth 20000 in
theorem ggL_law_X5_count : GoodIn wsL_law wsX5_count := goodIn_r _ [280, 104, 66, 105, 106, 5, 107, 281, 282, 283, 65, 284, 70, 76, 72, 25, 285, 244, 214, 215, 216, 77, 286, 241, 242, 243, 287, 288, 289, 290, 108, 109, 110, 111, 525, 526, 527, 528, 529, 530, 531, 532, 533, 553, 554, 555, 556, 557, 558, 559, 560, 561, 562, 563, 564] (by decide +kernel) (by decide +kernel)
set_option maxRecDepth 20000 in
theorem gL_law_X5_count : GoodIn wsL_law (wsV RL 90 RX5 yX5_count wsX5_count) := goodIn_app (goodIn_of _ (by decide +kernel)) ggL_law_X5_count
set_option maxRecDepth 20000 in
theorem ggL_law_L_next : GoodIn wsL_law wsL_next := goodIn_ca (goodIn_r _ [293, 87, 294, 295, 296, 2, 297, 94, 95, 16, 298, 299, 300, 15, 301, 29, 27, 522, 523, 524, 534, 535, 536, 537] (by decide +kernel) (by decide +kernel)) (goodIn_sub (fun _ h => List.mem_append_left _ (List.mem_append_right _ h)) (by decide +kernel))
set_option maxRecDepth 20000 in
theorem gL_law_L_next : GoodIn wsL_law (va_wsS RL 91 yL_next wsL_next) := goodIn_app (goodIn_of _ (by decide +kernel)) ggL_law_L_next
set_option maxRecDepth 20000 in
theorem ggL_law_X5_next : GoodIn wsL_law wsX5_next := goodIn_r _ [305, 104, 139, 60, 306, 307, 308, 309, 105, 106, 5, 107, 108, 109, 110, 111, 525, 526, 527, 528, 529, 530, 531, 532, 533] (by decide +kernel) (by decide +kernel)
set_option maxRecDepth 20000 in
theorem gL_law_X5_next : GoodIn wsL_law (wsV RL 93 RX5 yX5_next wsX5_next) := goodIn_app (goodIn_of _ (by decide +kernel)) ggL_law_X5_next
set_option maxRecDepth 20000 in
theorem ggL_law_L_rank : GoodIn wsL_law wsL_rank := goodIn_ca (goodIn_r _ [312, 86, 313, 314, 315, 2, 316, 92, 93, 20, 172, 174, 175, 176, 19, 177, 36, 317, 318, 319, 320, 35, 321, 322, 323, 39, 324, 51, 46, 228, 229, 230, 231, 52, 50, 522, 523, 524, 538, 539, 540, 541, 542, 543, 544, 545, 546, 547, 548, 549, 550, 551, 552] (by decide +kernel) (by decide +kernel)) (goodIn_sub (fun _ h => List.mem_append_left _ (List.mem_append_left _ (List.mem_append_right _ h))) (by decide +kernel))
set_option maxRecDepth 20000 in
theorem gL_law_L_rank : GoodIn wsL_law (va_wsS RL 94 yL_rank wsL_rank) := goodIn_app (goodIn_of _ (by decide +kernel)) ggL_law_L_rank
set_option maxRecDepth 20000 in
theorem ggL_law_X5_rank : GoodIn wsL_law wsX5_rank := goodIn_r _ [328, 104, 186, 187, 188, 5, 189, 164, 105, 106, 107, 329, 330, 331, 332, 333, 334, 335, 336, 66, 213, 214, 215, 65, 216, 77, 240, 241, 242, 243, 76, 244, 108, 109, 110, 111, 525, 526, 527, 528, 529, 530, 531, 532, 533, 553, 554, 555, 556, 557, 558, 559, 560, 561, 562, 563, 564] (by decide +kernel) (by decide +kernel)
set_option maxRecDepth 20000 in
theorem gL_law_X5_rank : GoodIn wsL_law (wsV RL 96 RX5 yX5_rank wsX5_rank) := goodIn_app (goodIn_of _ (by decide +kernel)) ggL_law_X5_rank
set_option maxRecDepth 20000 in
theorem ggL_law_L_go : GoodIn wsL_law wsL_go := goodIn_ca (goodIn_r _ [339, 87, 340, 341, 342, 2, 343, 94, 95, 20, 16, 257, 258, 259, 19, 260, 36, 35, 261, 202, 203, 39, 204, 51, 344, 345, 346, 347, 37, 348, 349, 350, 351, 46, 52, 352, 353, 354, 355, 44, 43, 356, 357, 358, 359, 360, 361, 362, 363, 48, 53, 49, 364, 365, 308, 366, 367, 368, 369, 370, 45, 371, 372, 373, 374, 47, 50, 375, 98, 15, 99, 376, 377, 378, 379, 380, 381, 382, 383, 384, 307, 309, 54, 385, 386, 387, 388, 29, 27, 28, 389, 390, 391, 392, 522, 523, 524, 538, 539, 540, 541, 542, 543, 544, 545, 546, 547, 548, 549, 550, 551, 552, 534, 535, 536, 537] (by decide +kernel) (by decide +kernel)) (goodIn_sub (fun _ h => List.mem_append_left _ (List.mem_append_right _ h)) (by decide +kernel))
set_option maxRecDepth 20000 in
theorem gL_law_L_go : GoodIn wsL_law (va_wsS RL 97 yL_go wsL_go) := goodIn_app (goodIn_of _ (by decide +kernel)) ggL_law_L_go
set_option maxRecDepth 20000 in
theorem ggL_law_X5_go : GoodIn wsL_law wsX5_go := goodIn_r _ [396, 104, 66, 105, 106, 5, 107, 108, 109, 110, 111, 397, 288, 289, 65, 290, 70, 244, 214, 215, 216, 77, 398, 399, 400, 401, 285, 402, 403, 404, 405, 72, 74, 406, 381, 308, 382, 73, 79, 407, 307, 309, 408, 409, 410, 411, 80, 78, 75, 412, 365, 366, 413, 414, 415, 416, 81, 417, 418, 419, 420, 76, 421, 422, 423, 424, 425, 426, 427, 428, 525, 526, 527, 528, 529, 530, 531, 532, 533, 553, 554, 555, 556, 557, 558, 559, 560, 561, 562, 563, 564] (by decide +kernel) (by decide +kernel)
set_option maxRecDepth 20000 in
theorem gL_law_X5_go : GoodIn wsL_law (wsV RL 99 RX5 yX5_go wsX5_go) := goodIn_app (goodIn_of _ (by decide +kernel)) ggL_law_X5_go
set_option maxRecDepth 20000 in
theorem ggL_law_L_arrives : GoodIn wsL_law wsL_arrives := goodIn_ca (goodIn_r _ [431, 86, 432, 433, 434, 2, 435, 92, 93, 20, 21, 172, 16, 256, 174, 175, 176, 19, 177, 36, 436, 437, 438, 39, 439, 43, 440, 441, 442, 443, 44, 45, 46, 47, 48, 49, 50, 51, 52, 53, 54, 201, 202, 203, 204, 444, 349, 350, 351, 352, 353, 354, 355, 356, 357, 358, 359, 360, 361, 362, 363, 364, 365, 308, 366, 367, 368, 369, 370, 371, 372, 373, 374, 375, 98, 15, 99, 376, 377, 378, 379, 380, 381, 382, 383, 384, 307, 309, 385, 386, 387, 388, 29, 27, 28, 389, 390, 391, 392, 522, 523, 524, 538, 539, 540, 541, 542, 543, 544, 545, 546, 547, 548, 549, 550, 551, 552, 534, 535, 536, 537] (by decide +kernel) (by decide +kernel)) (goodIn_sub (fun _ h => List.mem_append_left _ (List.mem_append_left _ (List.mem_append_right _ h))) (by decide +kernel))
set_option maxRecDepth 20000 in
theorem gL_law_L_arrives : GoodIn wsL_law (va_wsS RL 100 yL_arrives wsL_arrives) := goodIn_app (goodIn_of _ (by decide +kernel)) ggL_law_L_arrives
set_option maxRecDepth 20000 in
theorem ggL_law_X5_arrives : GoodIn wsL_law wsX5_arrives := goodIn_r _ [448, 104, 67, 66, 186, 187, 188, 5, 189, 164, 105, 106, 107, 108, 109, 110, 111, 449, 450, 451, 65, 452, 285, 72, 73, 74, 75, 76, 77, 78, 79, 80, 81, 453, 454, 455, 456, 457, 441, 442, 443, 213, 214, 215, 216, 398, 399, 400, 401, 70, 244, 402, 403, 404, 405, 406, 381, 308, 382, 407, 307, 309, 408, 409, 410, 411, 412, 365, 366, 413, 414, 415, 416, 417, 418, 419, 420, 421, 422, 423, 424, 425, 426, 427, 428, 525, 526, 527, 528, 529, 530, 531, 532, 533, 553, 554, 555, 556, 557, 558, 559, 560, 561, 562, 563, 564] (by decide +kernel) (by decide +kernel)
set_option maxRecDepth 20000 in
theorem gL_law_X5_arrives : GoodIn wsL_law (wsV RL 102 RX5 yX5_arrives wsX5_arrives) := goodIn_app (goodIn_of _ (by decide +kernel)) ggL_law_X5_arrives
set_option maxRecDepth 20000 in
theorem ggL_law_L_foresee : GoodIn wsL_law wsL_foresee := goodIn_ca (goodIn_ca (goodIn_r _ [460, 87, 86, 461, 462, 463, 2, 464, 94, 95, 92, 93, 21, 20, 16, 465, 466, 467, 19, 468, 36, 37, 35, 469, 437, 438, 39, 439, 43, 440, 441, 442, 443, 44, 45, 46, 47, 48, 49, 50, 51, 52, 53, 54, 344, 345, 346, 347, 348, 349, 350, 351, 352, 353, 354, 355, 356, 357, 358, 359, 360, 361, 362, 363, 364, 365, 308, 366, 367, 368, 369, 370, 371, 372, 373, 374, 375, 98, 15, 99, 376, 377, 378, 379, 380, 381, 382, 383, 384, 307, 309, 385, 386, 387, 388, 29, 27, 28, 389, 390, 391, 392, 252, 253, 254, 255, 256, 147, 126, 257, 258, 259, 260, 261, 202, 203, 204, 262, 263, 264, 265, 266, 267, 268, 269, 270, 271, 272, 273, 274, 275, 276, 229, 230, 231, 522, 523, 524, 538, 539, 540, 541, 542, 543, 544, 545, 546, 547, 548, 549, 550, 551, 552, 534, 535, 536, 537] (by decide +kernel) (by decide +kernel)) (goodIn_sub (fun _ h => List.mem_append_left _ (List.mem_append_right _ h)) (by decide +kernel))) (goodIn_sub (fun _ h => List.mem_append_left _ (List.mem_append_left _ (List.mem_append_right _ h))) (by decide +kernel))
set_option maxRecDepth 20000 in
theorem gL_law_L_foresee : GoodIn wsL_law (va_wsS RL 103 yL_foresee wsL_foresee) := goodIn_app (goodIn_of _ (by decide +kernel)) ggL_law_L_foresee
set_option maxRecDepth 20000 in
theorem ggL_law_X5_foresee : GoodIn wsL_law wsX5_foresee := goodIn_r _ [473, 104, 67, 66, 105, 106, 5, 107, 108, 109, 110, 111, 449, 450, 451, 65, 452, 285, 72, 73, 74, 75, 76, 77, 78, 79, 80, 81, 453, 454, 455, 456, 457, 441, 442, 443, 398, 399, 400, 401, 70, 244, 214, 215, 216, 402, 403, 404, 405, 406, 381, 308, 382, 407, 307, 309, 408, 409, 410, 411, 412, 365, 366, 413, 414, 415, 416, 417, 418, 419, 420, 421, 422, 423, 424, 425, 426, 427, 428, 281, 282, 283, 284, 25, 286, 241, 242, 243, 287, 288, 289, 290, 525, 526, 527, 528, 529, 530, 531, 532, 533, 553, 554, 555, 556, 557, 558, 559, 560, 561, 562, 563, 564] (by decide +kernel) (by decide +kernel)
set_option maxRecDepth 20000 in
theorem gL_law_X5_foresee : GoodIn wsL_law (wsV RL 105 RX5 yX5_foresee wsX5_foresee) := goodIn_app (goodIn_of _ (by decide +kernel)) ggL_law_X5_foresee
set_option maxRecDepth 20000 in
theorem ggL_law_L_advise : GoodIn wsL_law wsL_advise := goodIn_ca (goodIn_ca (goodIn_r _ [476, 86, 87, 477, 478, 479, 2, 480, 92, 93, 94, 95, 20, 174, 175, 176, 19, 177, 36, 481, 482, 483, 484, 21, 172, 16, 256, 485, 436, 437, 438, 39, 439, 43, 440, 441, 442, 443, 44, 45, 46, 47, 48, 49, 50, 51, 52, 53, 54, 181, 157, 158, 159, 444, 349, 350, 351, 352, 353, 354, 355, 356, 357, 358, 359, 360, 361, 362, 363, 364, 365, 308, 366, 367, 368, 369, 370, 371, 372, 373, 374, 375, 98, 15, 99, 376, 377, 378, 379, 380, 381, 382, 383, 384, 307, 309, 385, 386, 387, 388, 29, 27, 28, 389, 390, 391, 392, 522, 523, 524, 538, 539, 540, 541, 542, 543, 544, 545, 546, 547, 548, 549, 550, 551, 552, 534, 535, 536, 537] (by decide +kernel) (by decide +kernel)) (goodIn_sub (fun _ h => List.mem_append_left _ (List.mem_append_left _ (List.mem_append_right _ h))) (by decide +kernel))) (goodIn_sub (fun _ h => List.mem_append_left _ (List.mem_append_right _ h)) (by decide +kernel))
set_option maxRecDepth 20000 in
theorem gL_law_L_advise : GoodIn wsL_law (va_wsS RL 106 yL_advise wsL_advise) := goodIn_app (goodIn_of _ (by decide +kernel)) ggL_law_L_advise
set_option maxRecDepth 20000 in
theorem ggL_law_X5_advise : GoodIn wsL_law wsX5_advise := goodIn_r _ [489, 104, 67, 66, 186, 187, 188, 5, 189, 164, 105, 106, 107, 108, 109, 110, 111, 449, 450, 451, 65, 452, 285, 72, 73, 74, 75, 76, 77, 78, 79, 80, 81, 453, 454, 455, 456, 457, 441, 442, 443, 398, 399, 400, 401, 70, 244, 214, 215, 216, 402, 403, 404, 405, 406, 381, 308, 382, 407, 307, 309, 408, 409, 410, 411, 412, 365, 366, 413, 414, 415, 416, 417, 418, 419, 420, 421, 422, 423, 424, 425, 426, 427, 428, 525, 526, 527, 528, 529, 530, 531, 532, 533, 553, 554, 555, 556, 557, 558, 559, 560, 561, 562, 563, 564] (by decide +kernel) (by decide +kernel)
set_option maxRecDepth 20000 in
theorem gL_law_X5_advise : GoodIn wsL_law (wsV RL 108 RX5 yX5_advise wsX5_advise) := goodIn_app (goodIn_of _ (by decide +kernel)) ggL_law_X5_advise
set_option maxRecDepth 20000 in
theorem ggL_law_X3_mean : GoodIn wsL_law wsX3_mean := goodIn_r _ [493, 20, 147, 494, 495, 496, 19, 497, 36, 35, 271, 522, 523, 524, 538, 539, 540, 541, 542, 543, 544, 545, 546, 547, 548, 549, 550, 551, 552] (by decide +kernel) (by decide +kernel)
set_option maxRecDepth 20000 in
theorem gL_law_X3_mean : GoodIn wsL_law (wsV RL 109 RX3 yX3_mean wsX3_mean) := goodIn_app (goodIn_of _ (by decide +kernel)) ggL_law_X3_mean
set_option maxRecDepth 20000 in
theorem ggL_law_X5_mean : GoodIn wsL_law wsX5_mean := goodIn_r _ [501, 104, 164, 66, 525, 526, 527, 528, 529, 530, 531, 532, 533, 553, 554, 555, 556, 557, 558, 559, 560, 561, 562, 563, 564] (by decide +kernel) (by decide +kernel)
set_option maxRecDepth 20000 in
theorem gL_law_X5_mean : GoodIn wsL_law (wsV RL 113 RX5 yX5_mean wsX5_mean) := goodIn_app (goodIn_of _ (by decide +kernel)) ggL_law_X5_mean
set_option maxRecDepth 20000 in
theorem ggL_law_X3_digest : GoodIn wsL_law wsX3_digest := goodIn_r _ [505, 506, 507, 20, 16, 96, 126, 508, 509, 147, 172, 252, 253, 254, 2, 255, 256, 257, 258, 259, 19, 260, 36, 35, 261, 202, 203, 39, 204, 51, 262, 263, 264, 265, 266, 267, 268, 269, 270, 271, 272, 273, 274, 275, 276, 229, 230, 231, 52, 50, 510, 511, 512, 513, 173, 514, 224, 225, 226, 227, 46, 47, 48, 49, 53, 54, 228, 317, 318, 319, 320, 321, 322, 323, 324, 522, 523, 524, 534, 535, 536, 537, 538, 539, 540, 541, 542, 543, 544, 545, 546, 547, 548, 549, 550, 551, 552] (by decide +kernel) (by decide +kernel)
set_option maxRecDepth 20000 in
theorem gL_law_X3_digest : GoodIn wsL_law (wsV RL 114 RX3 yX3_digest wsX3_digest) := goodIn_app (goodIn_of _ (by decide +kernel)) ggL_law_X3_digest
set_option maxRecDepth 20000 in
theorem ggL_law_X5_digest : GoodIn wsL_law wsX5_digest := goodIn_r _ [518, 104, 519, 520, 66, 59, 139, 60, 61, 164, 281, 282, 283, 65, 284, 70, 76, 72, 25, 285, 244, 214, 215, 216, 77, 286, 241, 242, 243, 287, 288, 289, 290, 236, 237, 238, 5, 239, 213, 240, 521, 414, 415, 416, 81, 80, 329, 330, 331, 332, 333, 334, 335, 336, 525, 526, 527, 528, 529, 530, 531, 532, 533, 553, 554, 555, 556, 557, 558, 559, 560, 561, 562, 563, 564] (by decide +kernel) (by decide +kernel)
set_option maxRecDepth 20000 in
theorem gL_law_X5_digest : GoodIn wsL_law (wsV RL 118 RX5 yX5_digest wsX5_digest) := goodIn_app (goodIn_of _ (by decide +kernel)) ggL_law_X5_digest
theorem dL_law_0 : decode cL_law 0 = .ok (.new 8, 3) := by decide +kernel
theorem dL_law_3 : decode cL_law 3 = .ok (.dup, 1) := by decide +kernel
theorem dL_law_4 : decode cL_law 4 = .ok (.invokespecial 57, 3) := by decide +kernel
theorem dL_law_7 : decode cL_law 7 = .ok (.astore_n 1, 1) := by decide +kernel
theorem dL_law_8 : decode cL_law 8 = .ok (.new 58, 3) := by decide +kernel
theorem dL_law_11 : decode cL_law 11 = .ok (.dup, 1) := by decide +kernel
theorem dL_law_12 : decode cL_law 12 = .ok (.invokespecial 60, 3) := by decide +kernel
theorem dL_law_15 : decode cL_law 15 = .ok (.astore_n 2, 1) := by decide +kernel
theorem dL_law_16 : decode cL_law 16 = .ok (.iconst 1, 1) := by decide +kernel
theorem dL_law_17 : decode cL_law 17 = .ok (.newarray .long, 2) := by decide +kernel
theorem dL_law_19 : decode cL_law 19 = .ok (.astore_n 3, 1) := by decide +kernel
theorem dL_law_20 : decode cL_law 20 = .ok (.iconst 0, 1) := by decide +kernel
theorem dL_law_21 : decode cL_law 21 = .ok (.istore 4, 2) := by decide +kernel
theorem dL_law_23 : decode cL_law 23 = .ok (.iload 4, 2) := by decide +kernel
theorem dL_law_25 : decode cL_law 25 = .ok (.aload_n 0, 1) := by decide +kernel
theorem dL_law_26 : decode cL_law 26 = .ok (.arraylength, 1) := by decide +kernel
theorem dL_law_27 : decode cL_law 27 = .ok (.iconst 4, 1) := by decide +kernel
theorem dL_law_28 : decode cL_law 28 = .ok (.isub, 1) := by decide +kernel
theorem dL_law_29 : decode cL_law 29 = .ok (.if_icmp .gt 968, 3) := by decide +kernel
theorem dL_law_32 : decode cL_law 32 = .ok (.aload_n 0, 1) := by decide +kernel
theorem dL_law_33 : decode cL_law 33 = .ok (.iload 4, 2) := by decide +kernel
theorem dL_law_35 : decode cL_law 35 = .ok (.iaload, 1) := by decide +kernel
theorem dL_law_36 : decode cL_law 36 = .ok (.bipush 15, 2) := by decide +kernel
theorem dL_law_38 : decode cL_law 38 = .ok (.iand, 1) := by decide +kernel
theorem dL_law_39 : decode cL_law 39 = .ok (.tableswitch 952 0 14 #[73, 141, 209, 277, 357, 413, 481, 537, 593, 649, 705, 761, 829, 897, 938], 73) := by decide +kernel
theorem dL_law_112 : decode cL_law 112 = .ok (.aload_n 1, 1) := by decide +kernel
theorem dL_law_113 : decode cL_law 113 = .ok (.aload_n 0, 1) := by decide +kernel
theorem dL_law_114 : decode cL_law 114 = .ok (.iload 4, 2) := by decide +kernel
theorem dL_law_116 : decode cL_law 116 = .ok (.iconst 1, 1) := by decide +kernel
theorem dL_law_117 : decode cL_law 117 = .ok (.iadd, 1) := by decide +kernel
theorem dL_law_118 : decode cL_law 118 = .ok (.iaload, 1) := by decide +kernel
theorem dL_law_119 : decode cL_law 119 = .ok (.aload_n 0, 1) := by decide +kernel
theorem dL_law_120 : decode cL_law 120 = .ok (.iload 4, 2) := by decide +kernel
theorem dL_law_122 : decode cL_law 122 = .ok (.iconst 2, 1) := by decide +kernel
theorem dL_law_123 : decode cL_law 123 = .ok (.iadd, 1) := by decide +kernel
theorem dL_law_124 : decode cL_law 124 = .ok (.iaload, 1) := by decide +kernel
theorem dL_law_125 : decode cL_law 125 = .ok (.aload_n 3, 1) := by decide +kernel
theorem dL_law_126 : decode cL_law 126 = .ok (.invokestatic 61, 3) := by decide +kernel
theorem dL_law_129 : decode cL_law 129 = .ok (.istore 5, 2) := by decide +kernel
theorem dL_law_131 : decode cL_law 131 = .ok (.aload_n 2, 1) := by decide +kernel
theorem dL_law_132 : decode cL_law 132 = .ok (.aload_n 0, 1) := by decide +kernel
theorem dL_law_133 : decode cL_law 133 = .ok (.iload 4, 2) := by decide +kernel
theorem dL_law_135 : decode cL_law 135 = .ok (.iconst 1, 1) := by decide +kernel
theorem dL_law_136 : decode cL_law 136 = .ok (.iadd, 1) := by decide +kernel
theorem dL_law_137 : decode cL_law 137 = .ok (.iaload, 1) := by decide +kernel
theorem dL_law_138 : decode cL_law 138 = .ok (.aload_n 0, 1) := by decide +kernel
theorem dL_law_139 : decode cL_law 139 = .ok (.iload 4, 2) := by decide +kernel
theorem dL_law_141 : decode cL_law 141 = .ok (.iconst 2, 1) := by decide +kernel
theorem dL_law_142 : decode cL_law 142 = .ok (.iadd, 1) := by decide +kernel
theorem dL_law_143 : decode cL_law 143 = .ok (.iaload, 1) := by decide +kernel
theorem dL_law_144 : decode cL_law 144 = .ok (.invokevirtual 66, 3) := by decide +kernel
theorem dL_law_147 : decode cL_law 147 = .ok (.istore 6, 2) := by decide +kernel
theorem dL_law_149 : decode cL_law 149 = .ok (.aload_n 2, 1) := by decide +kernel
theorem dL_law_150 : decode cL_law 150 = .ok (.invokevirtual 67, 3) := by decide +kernel
theorem dL_law_153 : decode cL_law 153 = .ok (.iload 5, 2) := by decide +kernel
theorem dL_law_155 : decode cL_law 155 = .ok (.if_icmp .eq 5, 3) := by decide +kernel
theorem dL_law_158 : decode cL_law 158 = .ok (.iconst 0, 1) := by decide +kernel
theorem dL_law_159 : decode cL_law 159 = .ok (.ireturn, 1) := by decide +kernel
theorem dL_law_160 : decode cL_law 160 = .ok (.iload 5, 2) := by decide +kernel
theorem dL_law_162 : decode cL_law 162 = .ok (.ifCond .ne 15, 3) := by decide +kernel
theorem dL_law_165 : decode cL_law 165 = .ok (.aload_n 3, 1) := by decide +kernel
theorem dL_law_166 : decode cL_law 166 = .ok (.iconst 0, 1) := by decide +kernel
theorem dL_law_167 : decode cL_law 167 = .ok (.laload, 1) := by decide +kernel
theorem dL_law_168 : decode cL_law 168 = .ok (.iload 6, 2) := by decide +kernel
theorem dL_law_170 : decode cL_law 170 = .ok (.i2l, 1) := by decide +kernel
theorem dL_law_171 : decode cL_law 171 = .ok (.lcmp, 1) := by decide +kernel
theorem dL_law_172 : decode cL_law 172 = .ok (.ifCond .eq 5, 3) := by decide +kernel
theorem dL_law_175 : decode cL_law 175 = .ok (.iconst 0, 1) := by decide +kernel
theorem dL_law_176 : decode cL_law 176 = .ok (.ireturn, 1) := by decide +kernel
theorem dL_law_177 : decode cL_law 177 = .ok (.goto 814, 3) := by decide +kernel
theorem dL_law_180 : decode cL_law 180 = .ok (.aload_n 1, 1) := by decide +kernel
theorem dL_law_181 : decode cL_law 181 = .ok (.aload_n 0, 1) := by decide +kernel
theorem dL_law_182 : decode cL_law 182 = .ok (.iload 4, 2) := by decide +kernel
theorem dL_law_184 : decode cL_law 184 = .ok (.iconst 1, 1) := by decide +kernel
theorem dL_law_185 : decode cL_law 185 = .ok (.iadd, 1) := by decide +kernel
theorem dL_law_186 : decode cL_law 186 = .ok (.iaload, 1) := by decide +kernel
theorem dL_law_187 : decode cL_law 187 = .ok (.aload_n 0, 1) := by decide +kernel
theorem dL_law_188 : decode cL_law 188 = .ok (.iload 4, 2) := by decide +kernel
theorem dL_law_190 : decode cL_law 190 = .ok (.iconst 2, 1) := by decide +kernel
theorem dL_law_191 : decode cL_law 191 = .ok (.iadd, 1) := by decide +kernel
theorem dL_law_192 : decode cL_law 192 = .ok (.iaload, 1) := by decide +kernel
theorem dL_law_193 : decode cL_law 193 = .ok (.aload_n 3, 1) := by decide +kernel
theorem dL_law_194 : decode cL_law 194 = .ok (.invokestatic 71, 3) := by decide +kernel
theorem dL_law_197 : decode cL_law 197 = .ok (.istore 5, 2) := by decide +kernel
theorem dL_law_199 : decode cL_law 199 = .ok (.aload_n 2, 1) := by decide +kernel
theorem dL_law_200 : decode cL_law 200 = .ok (.aload_n 0, 1) := by decide +kernel
theorem dL_law_201 : decode cL_law 201 = .ok (.iload 4, 2) := by decide +kernel
theorem dL_law_203 : decode cL_law 203 = .ok (.iconst 1, 1) := by decide +kernel
theorem dL_law_204 : decode cL_law 204 = .ok (.iadd, 1) := by decide +kernel
theorem dL_law_205 : decode cL_law 205 = .ok (.iaload, 1) := by decide +kernel
theorem dL_law_206 : decode cL_law 206 = .ok (.aload_n 0, 1) := by decide +kernel
theorem dL_law_207 : decode cL_law 207 = .ok (.iload 4, 2) := by decide +kernel
theorem dL_law_209 : decode cL_law 209 = .ok (.iconst 2, 1) := by decide +kernel
theorem dL_law_210 : decode cL_law 210 = .ok (.iadd, 1) := by decide +kernel
theorem dL_law_211 : decode cL_law 211 = .ok (.iaload, 1) := by decide +kernel
theorem dL_law_212 : decode cL_law 212 = .ok (.invokevirtual 73, 3) := by decide +kernel
theorem dL_law_215 : decode cL_law 215 = .ok (.istore 6, 2) := by decide +kernel
theorem dL_law_217 : decode cL_law 217 = .ok (.aload_n 2, 1) := by decide +kernel
theorem dL_law_218 : decode cL_law 218 = .ok (.invokevirtual 67, 3) := by decide +kernel
theorem dL_law_221 : decode cL_law 221 = .ok (.iload 5, 2) := by decide +kernel
theorem dL_law_223 : decode cL_law 223 = .ok (.if_icmp .eq 5, 3) := by decide +kernel
theorem dL_law_226 : decode cL_law 226 = .ok (.iconst 0, 1) := by decide +kernel
theorem dL_law_227 : decode cL_law 227 = .ok (.ireturn, 1) := by decide +kernel
theorem dL_law_228 : decode cL_law 228 = .ok (.iload 5, 2) := by decide +kernel
theorem dL_law_230 : decode cL_law 230 = .ok (.ifCond .ne 15, 3) := by decide +kernel
theorem dL_law_233 : decode cL_law 233 = .ok (.aload_n 3, 1) := by decide +kernel
theorem dL_law_234 : decode cL_law 234 = .ok (.iconst 0, 1) := by decide +kernel
theorem dL_law_235 : decode cL_law 235 = .ok (.laload, 1) := by decide +kernel
theorem dL_law_236 : decode cL_law 236 = .ok (.iload 6, 2) := by decide +kernel
theorem dL_law_238 : decode cL_law 238 = .ok (.i2l, 1) := by decide +kernel
theorem dL_law_239 : decode cL_law 239 = .ok (.lcmp, 1) := by decide +kernel
theorem dL_law_240 : decode cL_law 240 = .ok (.ifCond .eq 5, 3) := by decide +kernel
theorem dL_law_243 : decode cL_law 243 = .ok (.iconst 0, 1) := by decide +kernel
theorem dL_law_244 : decode cL_law 244 = .ok (.ireturn, 1) := by decide +kernel
theorem dL_law_245 : decode cL_law 245 = .ok (.goto 746, 3) := by decide +kernel
theorem dL_law_248 : decode cL_law 248 = .ok (.aload_n 1, 1) := by decide +kernel
theorem dL_law_249 : decode cL_law 249 = .ok (.aload_n 0, 1) := by decide +kernel
theorem dL_law_250 : decode cL_law 250 = .ok (.iload 4, 2) := by decide +kernel
theorem dL_law_252 : decode cL_law 252 = .ok (.iconst 1, 1) := by decide +kernel
theorem dL_law_253 : decode cL_law 253 = .ok (.iadd, 1) := by decide +kernel
theorem dL_law_254 : decode cL_law 254 = .ok (.iaload, 1) := by decide +kernel
theorem dL_law_255 : decode cL_law 255 = .ok (.aload_n 0, 1) := by decide +kernel
theorem dL_law_256 : decode cL_law 256 = .ok (.iload 4, 2) := by decide +kernel
theorem dL_law_258 : decode cL_law 258 = .ok (.iconst 2, 1) := by decide +kernel
theorem dL_law_259 : decode cL_law 259 = .ok (.iadd, 1) := by decide +kernel
theorem dL_law_260 : decode cL_law 260 = .ok (.iaload, 1) := by decide +kernel
theorem dL_law_261 : decode cL_law 261 = .ok (.aload_n 3, 1) := by decide +kernel
theorem dL_law_262 : decode cL_law 262 = .ok (.invokestatic 74, 3) := by decide +kernel
theorem dL_law_265 : decode cL_law 265 = .ok (.istore 5, 2) := by decide +kernel
theorem dL_law_267 : decode cL_law 267 = .ok (.aload_n 2, 1) := by decide +kernel
theorem dL_law_268 : decode cL_law 268 = .ok (.aload_n 0, 1) := by decide +kernel
theorem dL_law_269 : decode cL_law 269 = .ok (.iload 4, 2) := by decide +kernel
theorem dL_law_271 : decode cL_law 271 = .ok (.iconst 1, 1) := by decide +kernel
theorem dL_law_272 : decode cL_law 272 = .ok (.iadd, 1) := by decide +kernel
theorem dL_law_273 : decode cL_law 273 = .ok (.iaload, 1) := by decide +kernel
theorem dL_law_274 : decode cL_law 274 = .ok (.aload_n 0, 1) := by decide +kernel
theorem dL_law_275 : decode cL_law 275 = .ok (.iload 4, 2) := by decide +kernel
theorem dL_law_277 : decode cL_law 277 = .ok (.iconst 2, 1) := by decide +kernel
theorem dL_law_278 : decode cL_law 278 = .ok (.iadd, 1) := by decide +kernel
theorem dL_law_279 : decode cL_law 279 = .ok (.iaload, 1) := by decide +kernel
theorem dL_law_280 : decode cL_law 280 = .ok (.invokevirtual 76, 3) := by decide +kernel
theorem dL_law_283 : decode cL_law 283 = .ok (.istore 6, 2) := by decide +kernel
theorem dL_law_285 : decode cL_law 285 = .ok (.aload_n 2, 1) := by decide +kernel
theorem dL_law_286 : decode cL_law 286 = .ok (.invokevirtual 67, 3) := by decide +kernel
theorem dL_law_289 : decode cL_law 289 = .ok (.iload 5, 2) := by decide +kernel
theorem dL_law_291 : decode cL_law 291 = .ok (.if_icmp .eq 5, 3) := by decide +kernel
theorem dL_law_294 : decode cL_law 294 = .ok (.iconst 0, 1) := by decide +kernel
theorem dL_law_295 : decode cL_law 295 = .ok (.ireturn, 1) := by decide +kernel
theorem dL_law_296 : decode cL_law 296 = .ok (.iload 5, 2) := by decide +kernel
theorem dL_law_298 : decode cL_law 298 = .ok (.ifCond .ne 15, 3) := by decide +kernel
theorem dL_law_301 : decode cL_law 301 = .ok (.aload_n 3, 1) := by decide +kernel
theorem dL_law_302 : decode cL_law 302 = .ok (.iconst 0, 1) := by decide +kernel
theorem dL_law_303 : decode cL_law 303 = .ok (.laload, 1) := by decide +kernel
theorem dL_law_304 : decode cL_law 304 = .ok (.iload 6, 2) := by decide +kernel
theorem dL_law_306 : decode cL_law 306 = .ok (.i2l, 1) := by decide +kernel
theorem dL_law_307 : decode cL_law 307 = .ok (.lcmp, 1) := by decide +kernel
theorem dL_law_308 : decode cL_law 308 = .ok (.ifCond .eq 5, 3) := by decide +kernel
theorem dL_law_311 : decode cL_law 311 = .ok (.iconst 0, 1) := by decide +kernel
theorem dL_law_312 : decode cL_law 312 = .ok (.ireturn, 1) := by decide +kernel
theorem dL_law_313 : decode cL_law 313 = .ok (.goto 678, 3) := by decide +kernel
theorem dL_law_316 : decode cL_law 316 = .ok (.aload_n 1, 1) := by decide +kernel
theorem dL_law_317 : decode cL_law 317 = .ok (.aload_n 0, 1) := by decide +kernel
theorem dL_law_318 : decode cL_law 318 = .ok (.iload 4, 2) := by decide +kernel
theorem dL_law_320 : decode cL_law 320 = .ok (.iconst 1, 1) := by decide +kernel
theorem dL_law_321 : decode cL_law 321 = .ok (.iadd, 1) := by decide +kernel
theorem dL_law_322 : decode cL_law 322 = .ok (.iaload, 1) := by decide +kernel
theorem dL_law_323 : decode cL_law 323 = .ok (.aload_n 0, 1) := by decide +kernel
theorem dL_law_324 : decode cL_law 324 = .ok (.iload 4, 2) := by decide +kernel
theorem dL_law_326 : decode cL_law 326 = .ok (.iconst 2, 1) := by decide +kernel
theorem dL_law_327 : decode cL_law 327 = .ok (.iadd, 1) := by decide +kernel
theorem dL_law_328 : decode cL_law 328 = .ok (.iaload, 1) := by decide +kernel
theorem dL_law_329 : decode cL_law 329 = .ok (.aload_n 0, 1) := by decide +kernel
theorem dL_law_330 : decode cL_law 330 = .ok (.iload 4, 2) := by decide +kernel
theorem dL_law_332 : decode cL_law 332 = .ok (.iconst 3, 1) := by decide +kernel
theorem dL_law_333 : decode cL_law 333 = .ok (.iadd, 1) := by decide +kernel
theorem dL_law_334 : decode cL_law 334 = .ok (.iaload, 1) := by decide +kernel
theorem dL_law_335 : decode cL_law 335 = .ok (.aload_n 3, 1) := by decide +kernel
theorem dL_law_336 : decode cL_law 336 = .ok (.invokestatic 77, 3) := by decide +kernel
theorem dL_law_339 : decode cL_law 339 = .ok (.istore 5, 2) := by decide +kernel
theorem dL_law_341 : decode cL_law 341 = .ok (.aload_n 2, 1) := by decide +kernel
theorem dL_law_342 : decode cL_law 342 = .ok (.aload_n 0, 1) := by decide +kernel
theorem dL_law_343 : decode cL_law 343 = .ok (.iload 4, 2) := by decide +kernel
theorem dL_law_345 : decode cL_law 345 = .ok (.iconst 1, 1) := by decide +kernel
theorem dL_law_346 : decode cL_law 346 = .ok (.iadd, 1) := by decide +kernel
theorem dL_law_347 : decode cL_law 347 = .ok (.iaload, 1) := by decide +kernel
theorem dL_law_348 : decode cL_law 348 = .ok (.aload_n 0, 1) := by decide +kernel
theorem dL_law_349 : decode cL_law 349 = .ok (.iload 4, 2) := by decide +kernel
theorem dL_law_351 : decode cL_law 351 = .ok (.iconst 2, 1) := by decide +kernel
theorem dL_law_352 : decode cL_law 352 = .ok (.iadd, 1) := by decide +kernel
theorem dL_law_353 : decode cL_law 353 = .ok (.iaload, 1) := by decide +kernel
theorem dL_law_354 : decode cL_law 354 = .ok (.aload_n 0, 1) := by decide +kernel
theorem dL_law_355 : decode cL_law 355 = .ok (.iload 4, 2) := by decide +kernel
theorem dL_law_357 : decode cL_law 357 = .ok (.iconst 3, 1) := by decide +kernel
theorem dL_law_358 : decode cL_law 358 = .ok (.iadd, 1) := by decide +kernel
theorem dL_law_359 : decode cL_law 359 = .ok (.iaload, 1) := by decide +kernel
theorem dL_law_360 : decode cL_law 360 = .ok (.invokevirtual 80, 3) := by decide +kernel
theorem dL_law_363 : decode cL_law 363 = .ok (.istore 6, 2) := by decide +kernel
theorem dL_law_365 : decode cL_law 365 = .ok (.aload_n 2, 1) := by decide +kernel
theorem dL_law_366 : decode cL_law 366 = .ok (.invokevirtual 67, 3) := by decide +kernel
theorem dL_law_369 : decode cL_law 369 = .ok (.iload 5, 2) := by decide +kernel
theorem dL_law_371 : decode cL_law 371 = .ok (.if_icmp .eq 5, 3) := by decide +kernel
theorem dL_law_374 : decode cL_law 374 = .ok (.iconst 0, 1) := by decide +kernel
theorem dL_law_375 : decode cL_law 375 = .ok (.ireturn, 1) := by decide +kernel
theorem dL_law_376 : decode cL_law 376 = .ok (.iload 5, 2) := by decide +kernel
theorem dL_law_378 : decode cL_law 378 = .ok (.ifCond .ne 15, 3) := by decide +kernel
theorem dL_law_381 : decode cL_law 381 = .ok (.aload_n 3, 1) := by decide +kernel
theorem dL_law_382 : decode cL_law 382 = .ok (.iconst 0, 1) := by decide +kernel
theorem dL_law_383 : decode cL_law 383 = .ok (.laload, 1) := by decide +kernel
theorem dL_law_384 : decode cL_law 384 = .ok (.iload 6, 2) := by decide +kernel
theorem dL_law_386 : decode cL_law 386 = .ok (.i2l, 1) := by decide +kernel
theorem dL_law_387 : decode cL_law 387 = .ok (.lcmp, 1) := by decide +kernel
theorem dL_law_388 : decode cL_law 388 = .ok (.ifCond .eq 5, 3) := by decide +kernel
theorem dL_law_391 : decode cL_law 391 = .ok (.iconst 0, 1) := by decide +kernel
theorem dL_law_392 : decode cL_law 392 = .ok (.ireturn, 1) := by decide +kernel
theorem dL_law_393 : decode cL_law 393 = .ok (.goto 598, 3) := by decide +kernel
theorem dL_law_396 : decode cL_law 396 = .ok (.aload_n 1, 1) := by decide +kernel
theorem dL_law_397 : decode cL_law 397 = .ok (.aload_n 0, 1) := by decide +kernel
theorem dL_law_398 : decode cL_law 398 = .ok (.iload 4, 2) := by decide +kernel
theorem dL_law_400 : decode cL_law 400 = .ok (.iconst 1, 1) := by decide +kernel
theorem dL_law_401 : decode cL_law 401 = .ok (.iadd, 1) := by decide +kernel
theorem dL_law_402 : decode cL_law 402 = .ok (.iaload, 1) := by decide +kernel
theorem dL_law_403 : decode cL_law 403 = .ok (.aload_n 3, 1) := by decide +kernel
theorem dL_law_404 : decode cL_law 404 = .ok (.invokestatic 81, 3) := by decide +kernel
theorem dL_law_407 : decode cL_law 407 = .ok (.istore 5, 2) := by decide +kernel
theorem dL_law_409 : decode cL_law 409 = .ok (.aload_n 2, 1) := by decide +kernel
theorem dL_law_410 : decode cL_law 410 = .ok (.aload_n 0, 1) := by decide +kernel
theorem dL_law_411 : decode cL_law 411 = .ok (.iload 4, 2) := by decide +kernel
theorem dL_law_413 : decode cL_law 413 = .ok (.iconst 1, 1) := by decide +kernel
theorem dL_law_414 : decode cL_law 414 = .ok (.iadd, 1) := by decide +kernel
theorem dL_law_415 : decode cL_law 415 = .ok (.iaload, 1) := by decide +kernel
theorem dL_law_416 : decode cL_law 416 = .ok (.invokevirtual 84, 3) := by decide +kernel
theorem dL_law_419 : decode cL_law 419 = .ok (.istore 6, 2) := by decide +kernel
theorem dL_law_421 : decode cL_law 421 = .ok (.aload_n 2, 1) := by decide +kernel
theorem dL_law_422 : decode cL_law 422 = .ok (.invokevirtual 67, 3) := by decide +kernel
theorem dL_law_425 : decode cL_law 425 = .ok (.iload 5, 2) := by decide +kernel
theorem dL_law_427 : decode cL_law 427 = .ok (.if_icmp .eq 5, 3) := by decide +kernel
theorem dL_law_430 : decode cL_law 430 = .ok (.iconst 0, 1) := by decide +kernel
theorem dL_law_431 : decode cL_law 431 = .ok (.ireturn, 1) := by decide +kernel
theorem dL_law_432 : decode cL_law 432 = .ok (.iload 5, 2) := by decide +kernel
theorem dL_law_434 : decode cL_law 434 = .ok (.ifCond .ne 15, 3) := by decide +kernel
theorem dL_law_437 : decode cL_law 437 = .ok (.aload_n 3, 1) := by decide +kernel
theorem dL_law_438 : decode cL_law 438 = .ok (.iconst 0, 1) := by decide +kernel
theorem dL_law_439 : decode cL_law 439 = .ok (.laload, 1) := by decide +kernel
theorem dL_law_440 : decode cL_law 440 = .ok (.iload 6, 2) := by decide +kernel
theorem dL_law_442 : decode cL_law 442 = .ok (.i2l, 1) := by decide +kernel
theorem dL_law_443 : decode cL_law 443 = .ok (.lcmp, 1) := by decide +kernel
theorem dL_law_444 : decode cL_law 444 = .ok (.ifCond .eq 5, 3) := by decide +kernel
theorem dL_law_447 : decode cL_law 447 = .ok (.iconst 0, 1) := by decide +kernel
theorem dL_law_448 : decode cL_law 448 = .ok (.ireturn, 1) := by decide +kernel
theorem dL_law_449 : decode cL_law 449 = .ok (.goto 542, 3) := by decide +kernel
theorem dL_law_452 : decode cL_law 452 = .ok (.aload_n 1, 1) := by decide +kernel
theorem dL_law_453 : decode cL_law 453 = .ok (.aload_n 0, 1) := by decide +kernel
theorem dL_law_454 : decode cL_law 454 = .ok (.iload 4, 2) := by decide +kernel
theorem dL_law_456 : decode cL_law 456 = .ok (.iconst 1, 1) := by decide +kernel
theorem dL_law_457 : decode cL_law 457 = .ok (.iadd, 1) := by decide +kernel
theorem dL_law_458 : decode cL_law 458 = .ok (.iaload, 1) := by decide +kernel
theorem dL_law_459 : decode cL_law 459 = .ok (.aload_n 0, 1) := by decide +kernel
theorem dL_law_460 : decode cL_law 460 = .ok (.iload 4, 2) := by decide +kernel
theorem dL_law_462 : decode cL_law 462 = .ok (.iconst 2, 1) := by decide +kernel
theorem dL_law_463 : decode cL_law 463 = .ok (.iadd, 1) := by decide +kernel
theorem dL_law_464 : decode cL_law 464 = .ok (.iaload, 1) := by decide +kernel
theorem dL_law_465 : decode cL_law 465 = .ok (.aload_n 3, 1) := by decide +kernel
theorem dL_law_466 : decode cL_law 466 = .ok (.invokestatic 85, 3) := by decide +kernel
theorem dL_law_469 : decode cL_law 469 = .ok (.istore 5, 2) := by decide +kernel
theorem dL_law_471 : decode cL_law 471 = .ok (.aload_n 2, 1) := by decide +kernel
theorem dL_law_472 : decode cL_law 472 = .ok (.aload_n 0, 1) := by decide +kernel
theorem dL_law_473 : decode cL_law 473 = .ok (.iload 4, 2) := by decide +kernel
theorem dL_law_475 : decode cL_law 475 = .ok (.iconst 1, 1) := by decide +kernel
theorem dL_law_476 : decode cL_law 476 = .ok (.iadd, 1) := by decide +kernel
theorem dL_law_477 : decode cL_law 477 = .ok (.iaload, 1) := by decide +kernel
theorem dL_law_478 : decode cL_law 478 = .ok (.aload_n 0, 1) := by decide +kernel
theorem dL_law_479 : decode cL_law 479 = .ok (.iload 4, 2) := by decide +kernel
theorem dL_law_481 : decode cL_law 481 = .ok (.iconst 2, 1) := by decide +kernel
theorem dL_law_482 : decode cL_law 482 = .ok (.iadd, 1) := by decide +kernel
theorem dL_law_483 : decode cL_law 483 = .ok (.iaload, 1) := by decide +kernel
theorem dL_law_484 : decode cL_law 484 = .ok (.invokevirtual 87, 3) := by decide +kernel
theorem dL_law_487 : decode cL_law 487 = .ok (.istore 6, 2) := by decide +kernel
theorem dL_law_489 : decode cL_law 489 = .ok (.aload_n 2, 1) := by decide +kernel
theorem dL_law_490 : decode cL_law 490 = .ok (.invokevirtual 67, 3) := by decide +kernel
theorem dL_law_493 : decode cL_law 493 = .ok (.iload 5, 2) := by decide +kernel
theorem dL_law_495 : decode cL_law 495 = .ok (.if_icmp .eq 5, 3) := by decide +kernel
theorem dL_law_498 : decode cL_law 498 = .ok (.iconst 0, 1) := by decide +kernel
theorem dL_law_499 : decode cL_law 499 = .ok (.ireturn, 1) := by decide +kernel
theorem dL_law_500 : decode cL_law 500 = .ok (.iload 5, 2) := by decide +kernel
theorem dL_law_502 : decode cL_law 502 = .ok (.ifCond .ne 15, 3) := by decide +kernel
theorem dL_law_505 : decode cL_law 505 = .ok (.aload_n 3, 1) := by decide +kernel
theorem dL_law_506 : decode cL_law 506 = .ok (.iconst 0, 1) := by decide +kernel
theorem dL_law_507 : decode cL_law 507 = .ok (.laload, 1) := by decide +kernel
theorem dL_law_508 : decode cL_law 508 = .ok (.iload 6, 2) := by decide +kernel
theorem dL_law_510 : decode cL_law 510 = .ok (.i2l, 1) := by decide +kernel
theorem dL_law_511 : decode cL_law 511 = .ok (.lcmp, 1) := by decide +kernel
theorem dL_law_512 : decode cL_law 512 = .ok (.ifCond .eq 5, 3) := by decide +kernel
theorem dL_law_515 : decode cL_law 515 = .ok (.iconst 0, 1) := by decide +kernel
theorem dL_law_516 : decode cL_law 516 = .ok (.ireturn, 1) := by decide +kernel
theorem dL_law_517 : decode cL_law 517 = .ok (.goto 474, 3) := by decide +kernel
theorem dL_law_520 : decode cL_law 520 = .ok (.aload_n 1, 1) := by decide +kernel
theorem dL_law_521 : decode cL_law 521 = .ok (.aload_n 0, 1) := by decide +kernel
theorem dL_law_522 : decode cL_law 522 = .ok (.iload 4, 2) := by decide +kernel
theorem dL_law_524 : decode cL_law 524 = .ok (.iconst 1, 1) := by decide +kernel
theorem dL_law_525 : decode cL_law 525 = .ok (.iadd, 1) := by decide +kernel
theorem dL_law_526 : decode cL_law 526 = .ok (.iaload, 1) := by decide +kernel
theorem dL_law_527 : decode cL_law 527 = .ok (.aload_n 3, 1) := by decide +kernel
theorem dL_law_528 : decode cL_law 528 = .ok (.invokestatic 88, 3) := by decide +kernel
theorem dL_law_531 : decode cL_law 531 = .ok (.istore 5, 2) := by decide +kernel
theorem dL_law_533 : decode cL_law 533 = .ok (.aload_n 2, 1) := by decide +kernel
theorem dL_law_534 : decode cL_law 534 = .ok (.aload_n 0, 1) := by decide +kernel
theorem dL_law_535 : decode cL_law 535 = .ok (.iload 4, 2) := by decide +kernel
theorem dL_law_537 : decode cL_law 537 = .ok (.iconst 1, 1) := by decide +kernel
theorem dL_law_538 : decode cL_law 538 = .ok (.iadd, 1) := by decide +kernel
theorem dL_law_539 : decode cL_law 539 = .ok (.iaload, 1) := by decide +kernel
theorem dL_law_540 : decode cL_law 540 = .ok (.invokevirtual 90, 3) := by decide +kernel
theorem dL_law_543 : decode cL_law 543 = .ok (.istore 6, 2) := by decide +kernel
theorem dL_law_545 : decode cL_law 545 = .ok (.aload_n 2, 1) := by decide +kernel
theorem dL_law_546 : decode cL_law 546 = .ok (.invokevirtual 67, 3) := by decide +kernel
theorem dL_law_549 : decode cL_law 549 = .ok (.iload 5, 2) := by decide +kernel
theorem dL_law_551 : decode cL_law 551 = .ok (.if_icmp .eq 5, 3) := by decide +kernel
theorem dL_law_554 : decode cL_law 554 = .ok (.iconst 0, 1) := by decide +kernel
theorem dL_law_555 : decode cL_law 555 = .ok (.ireturn, 1) := by decide +kernel
theorem dL_law_556 : decode cL_law 556 = .ok (.iload 5, 2) := by decide +kernel
theorem dL_law_558 : decode cL_law 558 = .ok (.ifCond .ne 15, 3) := by decide +kernel
theorem dL_law_561 : decode cL_law 561 = .ok (.aload_n 3, 1) := by decide +kernel
theorem dL_law_562 : decode cL_law 562 = .ok (.iconst 0, 1) := by decide +kernel
theorem dL_law_563 : decode cL_law 563 = .ok (.laload, 1) := by decide +kernel
theorem dL_law_564 : decode cL_law 564 = .ok (.iload 6, 2) := by decide +kernel
theorem dL_law_566 : decode cL_law 566 = .ok (.i2l, 1) := by decide +kernel
theorem dL_law_567 : decode cL_law 567 = .ok (.lcmp, 1) := by decide +kernel
theorem dL_law_568 : decode cL_law 568 = .ok (.ifCond .eq 5, 3) := by decide +kernel
theorem dL_law_571 : decode cL_law 571 = .ok (.iconst 0, 1) := by decide +kernel
theorem dL_law_572 : decode cL_law 572 = .ok (.ireturn, 1) := by decide +kernel
theorem dL_law_573 : decode cL_law 573 = .ok (.goto 418, 3) := by decide +kernel
theorem dL_law_576 : decode cL_law 576 = .ok (.aload_n 1, 1) := by decide +kernel
theorem dL_law_577 : decode cL_law 577 = .ok (.aload_n 0, 1) := by decide +kernel
theorem dL_law_578 : decode cL_law 578 = .ok (.iload 4, 2) := by decide +kernel
theorem dL_law_580 : decode cL_law 580 = .ok (.iconst 1, 1) := by decide +kernel
theorem dL_law_581 : decode cL_law 581 = .ok (.iadd, 1) := by decide +kernel
theorem dL_law_582 : decode cL_law 582 = .ok (.iaload, 1) := by decide +kernel
theorem dL_law_583 : decode cL_law 583 = .ok (.aload_n 3, 1) := by decide +kernel
theorem dL_law_584 : decode cL_law 584 = .ok (.invokestatic 91, 3) := by decide +kernel
theorem dL_law_587 : decode cL_law 587 = .ok (.istore 5, 2) := by decide +kernel
theorem dL_law_589 : decode cL_law 589 = .ok (.aload_n 2, 1) := by decide +kernel
theorem dL_law_590 : decode cL_law 590 = .ok (.aload_n 0, 1) := by decide +kernel
theorem dL_law_591 : decode cL_law 591 = .ok (.iload 4, 2) := by decide +kernel
theorem dL_law_593 : decode cL_law 593 = .ok (.iconst 1, 1) := by decide +kernel
theorem dL_law_594 : decode cL_law 594 = .ok (.iadd, 1) := by decide +kernel
theorem dL_law_595 : decode cL_law 595 = .ok (.iaload, 1) := by decide +kernel
theorem dL_law_596 : decode cL_law 596 = .ok (.invokevirtual 93, 3) := by decide +kernel
theorem dL_law_599 : decode cL_law 599 = .ok (.istore 6, 2) := by decide +kernel
theorem dL_law_601 : decode cL_law 601 = .ok (.aload_n 2, 1) := by decide +kernel
theorem dL_law_602 : decode cL_law 602 = .ok (.invokevirtual 67, 3) := by decide +kernel
theorem dL_law_605 : decode cL_law 605 = .ok (.iload 5, 2) := by decide +kernel
theorem dL_law_607 : decode cL_law 607 = .ok (.if_icmp .eq 5, 3) := by decide +kernel
theorem dL_law_610 : decode cL_law 610 = .ok (.iconst 0, 1) := by decide +kernel
theorem dL_law_611 : decode cL_law 611 = .ok (.ireturn, 1) := by decide +kernel
theorem dL_law_612 : decode cL_law 612 = .ok (.iload 5, 2) := by decide +kernel
theorem dL_law_614 : decode cL_law 614 = .ok (.ifCond .ne 15, 3) := by decide +kernel
theorem dL_law_617 : decode cL_law 617 = .ok (.aload_n 3, 1) := by decide +kernel
theorem dL_law_618 : decode cL_law 618 = .ok (.iconst 0, 1) := by decide +kernel
theorem dL_law_619 : decode cL_law 619 = .ok (.laload, 1) := by decide +kernel
theorem dL_law_620 : decode cL_law 620 = .ok (.iload 6, 2) := by decide +kernel
theorem dL_law_622 : decode cL_law 622 = .ok (.i2l, 1) := by decide +kernel
theorem dL_law_623 : decode cL_law 623 = .ok (.lcmp, 1) := by decide +kernel
theorem dL_law_624 : decode cL_law 624 = .ok (.ifCond .eq 5, 3) := by decide +kernel
theorem dL_law_627 : decode cL_law 627 = .ok (.iconst 0, 1) := by decide +kernel
theorem dL_law_628 : decode cL_law 628 = .ok (.ireturn, 1) := by decide +kernel
theorem dL_law_629 : decode cL_law 629 = .ok (.goto 362, 3) := by decide +kernel
theorem dL_law_632 : decode cL_law 632 = .ok (.aload_n 1, 1) := by decide +kernel
theorem dL_law_633 : decode cL_law 633 = .ok (.aload_n 0, 1) := by decide +kernel
theorem dL_law_634 : decode cL_law 634 = .ok (.iload 4, 2) := by decide +kernel
theorem dL_law_636 : decode cL_law 636 = .ok (.iconst 1, 1) := by decide +kernel
theorem dL_law_637 : decode cL_law 637 = .ok (.iadd, 1) := by decide +kernel
theorem dL_law_638 : decode cL_law 638 = .ok (.iaload, 1) := by decide +kernel
theorem dL_law_639 : decode cL_law 639 = .ok (.aload_n 3, 1) := by decide +kernel
theorem dL_law_640 : decode cL_law 640 = .ok (.invokestatic 94, 3) := by decide +kernel
theorem dL_law_643 : decode cL_law 643 = .ok (.istore 5, 2) := by decide +kernel
theorem dL_law_645 : decode cL_law 645 = .ok (.aload_n 2, 1) := by decide +kernel
theorem dL_law_646 : decode cL_law 646 = .ok (.aload_n 0, 1) := by decide +kernel
theorem dL_law_647 : decode cL_law 647 = .ok (.iload 4, 2) := by decide +kernel
theorem dL_law_649 : decode cL_law 649 = .ok (.iconst 1, 1) := by decide +kernel
theorem dL_law_650 : decode cL_law 650 = .ok (.iadd, 1) := by decide +kernel
theorem dL_law_651 : decode cL_law 651 = .ok (.iaload, 1) := by decide +kernel
theorem dL_law_652 : decode cL_law 652 = .ok (.invokevirtual 96, 3) := by decide +kernel
theorem dL_law_655 : decode cL_law 655 = .ok (.istore 6, 2) := by decide +kernel
theorem dL_law_657 : decode cL_law 657 = .ok (.aload_n 2, 1) := by decide +kernel
theorem dL_law_658 : decode cL_law 658 = .ok (.invokevirtual 67, 3) := by decide +kernel
theorem dL_law_661 : decode cL_law 661 = .ok (.iload 5, 2) := by decide +kernel
theorem dL_law_663 : decode cL_law 663 = .ok (.if_icmp .eq 5, 3) := by decide +kernel
theorem dL_law_666 : decode cL_law 666 = .ok (.iconst 0, 1) := by decide +kernel
theorem dL_law_667 : decode cL_law 667 = .ok (.ireturn, 1) := by decide +kernel
theorem dL_law_668 : decode cL_law 668 = .ok (.iload 5, 2) := by decide +kernel
theorem dL_law_670 : decode cL_law 670 = .ok (.ifCond .ne 15, 3) := by decide +kernel
theorem dL_law_673 : decode cL_law 673 = .ok (.aload_n 3, 1) := by decide +kernel
theorem dL_law_674 : decode cL_law 674 = .ok (.iconst 0, 1) := by decide +kernel
theorem dL_law_675 : decode cL_law 675 = .ok (.laload, 1) := by decide +kernel
theorem dL_law_676 : decode cL_law 676 = .ok (.iload 6, 2) := by decide +kernel
theorem dL_law_678 : decode cL_law 678 = .ok (.i2l, 1) := by decide +kernel
theorem dL_law_679 : decode cL_law 679 = .ok (.lcmp, 1) := by decide +kernel
theorem dL_law_680 : decode cL_law 680 = .ok (.ifCond .eq 5, 3) := by decide +kernel
theorem dL_law_683 : decode cL_law 683 = .ok (.iconst 0, 1) := by decide +kernel
theorem dL_law_684 : decode cL_law 684 = .ok (.ireturn, 1) := by decide +kernel
theorem dL_law_685 : decode cL_law 685 = .ok (.goto 306, 3) := by decide +kernel
theorem dL_law_688 : decode cL_law 688 = .ok (.aload_n 1, 1) := by decide +kernel
theorem dL_law_689 : decode cL_law 689 = .ok (.aload_n 0, 1) := by decide +kernel
theorem dL_law_690 : decode cL_law 690 = .ok (.iload 4, 2) := by decide +kernel
theorem dL_law_692 : decode cL_law 692 = .ok (.iconst 1, 1) := by decide +kernel
theorem dL_law_693 : decode cL_law 693 = .ok (.iadd, 1) := by decide +kernel
theorem dL_law_694 : decode cL_law 694 = .ok (.iaload, 1) := by decide +kernel
theorem dL_law_695 : decode cL_law 695 = .ok (.aload_n 3, 1) := by decide +kernel
theorem dL_law_696 : decode cL_law 696 = .ok (.invokestatic 97, 3) := by decide +kernel
theorem dL_law_699 : decode cL_law 699 = .ok (.istore 5, 2) := by decide +kernel
theorem dL_law_701 : decode cL_law 701 = .ok (.aload_n 2, 1) := by decide +kernel
theorem dL_law_702 : decode cL_law 702 = .ok (.aload_n 0, 1) := by decide +kernel
theorem dL_law_703 : decode cL_law 703 = .ok (.iload 4, 2) := by decide +kernel
theorem dL_law_705 : decode cL_law 705 = .ok (.iconst 1, 1) := by decide +kernel
theorem dL_law_706 : decode cL_law 706 = .ok (.iadd, 1) := by decide +kernel
theorem dL_law_707 : decode cL_law 707 = .ok (.iaload, 1) := by decide +kernel
theorem dL_law_708 : decode cL_law 708 = .ok (.invokevirtual 99, 3) := by decide +kernel
theorem dL_law_711 : decode cL_law 711 = .ok (.istore 6, 2) := by decide +kernel
theorem dL_law_713 : decode cL_law 713 = .ok (.aload_n 2, 1) := by decide +kernel
theorem dL_law_714 : decode cL_law 714 = .ok (.invokevirtual 67, 3) := by decide +kernel
theorem dL_law_717 : decode cL_law 717 = .ok (.iload 5, 2) := by decide +kernel
theorem dL_law_719 : decode cL_law 719 = .ok (.if_icmp .eq 5, 3) := by decide +kernel
theorem dL_law_722 : decode cL_law 722 = .ok (.iconst 0, 1) := by decide +kernel
theorem dL_law_723 : decode cL_law 723 = .ok (.ireturn, 1) := by decide +kernel
theorem dL_law_724 : decode cL_law 724 = .ok (.iload 5, 2) := by decide +kernel
theorem dL_law_726 : decode cL_law 726 = .ok (.ifCond .ne 15, 3) := by decide +kernel
theorem dL_law_729 : decode cL_law 729 = .ok (.aload_n 3, 1) := by decide +kernel
theorem dL_law_730 : decode cL_law 730 = .ok (.iconst 0, 1) := by decide +kernel
theorem dL_law_731 : decode cL_law 731 = .ok (.laload, 1) := by decide +kernel
theorem dL_law_732 : decode cL_law 732 = .ok (.iload 6, 2) := by decide +kernel
theorem dL_law_734 : decode cL_law 734 = .ok (.i2l, 1) := by decide +kernel
theorem dL_law_735 : decode cL_law 735 = .ok (.lcmp, 1) := by decide +kernel
theorem dL_law_736 : decode cL_law 736 = .ok (.ifCond .eq 5, 3) := by decide +kernel
theorem dL_law_739 : decode cL_law 739 = .ok (.iconst 0, 1) := by decide +kernel
theorem dL_law_740 : decode cL_law 740 = .ok (.ireturn, 1) := by decide +kernel
theorem dL_law_741 : decode cL_law 741 = .ok (.goto 250, 3) := by decide +kernel
theorem dL_law_744 : decode cL_law 744 = .ok (.aload_n 1, 1) := by decide +kernel
theorem dL_law_745 : decode cL_law 745 = .ok (.aload_n 0, 1) := by decide +kernel
theorem dL_law_746 : decode cL_law 746 = .ok (.iload 4, 2) := by decide +kernel
theorem dL_law_748 : decode cL_law 748 = .ok (.iconst 1, 1) := by decide +kernel
theorem dL_law_749 : decode cL_law 749 = .ok (.iadd, 1) := by decide +kernel
theorem dL_law_750 : decode cL_law 750 = .ok (.iaload, 1) := by decide +kernel
theorem dL_law_751 : decode cL_law 751 = .ok (.aload_n 3, 1) := by decide +kernel
theorem dL_law_752 : decode cL_law 752 = .ok (.invokestatic 100, 3) := by decide +kernel
theorem dL_law_755 : decode cL_law 755 = .ok (.istore 5, 2) := by decide +kernel
theorem dL_law_757 : decode cL_law 757 = .ok (.aload_n 2, 1) := by decide +kernel
theorem dL_law_758 : decode cL_law 758 = .ok (.aload_n 0, 1) := by decide +kernel
theorem dL_law_759 : decode cL_law 759 = .ok (.iload 4, 2) := by decide +kernel
theorem dL_law_761 : decode cL_law 761 = .ok (.iconst 1, 1) := by decide +kernel
theorem dL_law_762 : decode cL_law 762 = .ok (.iadd, 1) := by decide +kernel
theorem dL_law_763 : decode cL_law 763 = .ok (.iaload, 1) := by decide +kernel
theorem dL_law_764 : decode cL_law 764 = .ok (.invokevirtual 102, 3) := by decide +kernel
theorem dL_law_767 : decode cL_law 767 = .ok (.istore 6, 2) := by decide +kernel
theorem dL_law_769 : decode cL_law 769 = .ok (.aload_n 2, 1) := by decide +kernel
theorem dL_law_770 : decode cL_law 770 = .ok (.invokevirtual 67, 3) := by decide +kernel
theorem dL_law_773 : decode cL_law 773 = .ok (.iload 5, 2) := by decide +kernel
theorem dL_law_775 : decode cL_law 775 = .ok (.if_icmp .eq 5, 3) := by decide +kernel
theorem dL_law_778 : decode cL_law 778 = .ok (.iconst 0, 1) := by decide +kernel
theorem dL_law_779 : decode cL_law 779 = .ok (.ireturn, 1) := by decide +kernel
theorem dL_law_780 : decode cL_law 780 = .ok (.iload 5, 2) := by decide +kernel
theorem dL_law_782 : decode cL_law 782 = .ok (.ifCond .ne 15, 3) := by decide +kernel
theorem dL_law_785 : decode cL_law 785 = .ok (.aload_n 3, 1) := by decide +kernel
theorem dL_law_786 : decode cL_law 786 = .ok (.iconst 0, 1) := by decide +kernel
theorem dL_law_787 : decode cL_law 787 = .ok (.laload, 1) := by decide +kernel
theorem dL_law_788 : decode cL_law 788 = .ok (.iload 6, 2) := by decide +kernel
theorem dL_law_790 : decode cL_law 790 = .ok (.i2l, 1) := by decide +kernel
theorem dL_law_791 : decode cL_law 791 = .ok (.lcmp, 1) := by decide +kernel
theorem dL_law_792 : decode cL_law 792 = .ok (.ifCond .eq 5, 3) := by decide +kernel
theorem dL_law_795 : decode cL_law 795 = .ok (.iconst 0, 1) := by decide +kernel
theorem dL_law_796 : decode cL_law 796 = .ok (.ireturn, 1) := by decide +kernel
theorem dL_law_797 : decode cL_law 797 = .ok (.goto 194, 3) := by decide +kernel
theorem dL_law_800 : decode cL_law 800 = .ok (.aload_n 1, 1) := by decide +kernel
theorem dL_law_801 : decode cL_law 801 = .ok (.aload_n 0, 1) := by decide +kernel
theorem dL_law_802 : decode cL_law 802 = .ok (.iload 4, 2) := by decide +kernel
theorem dL_law_804 : decode cL_law 804 = .ok (.iconst 1, 1) := by decide +kernel
theorem dL_law_805 : decode cL_law 805 = .ok (.iadd, 1) := by decide +kernel
theorem dL_law_806 : decode cL_law 806 = .ok (.iaload, 1) := by decide +kernel
theorem dL_law_807 : decode cL_law 807 = .ok (.aload_n 0, 1) := by decide +kernel
theorem dL_law_808 : decode cL_law 808 = .ok (.iload 4, 2) := by decide +kernel
theorem dL_law_810 : decode cL_law 810 = .ok (.iconst 2, 1) := by decide +kernel
theorem dL_law_811 : decode cL_law 811 = .ok (.iadd, 1) := by decide +kernel
theorem dL_law_812 : decode cL_law 812 = .ok (.iaload, 1) := by decide +kernel
theorem dL_law_813 : decode cL_law 813 = .ok (.aload_n 3, 1) := by decide +kernel
theorem dL_law_814 : decode cL_law 814 = .ok (.invokestatic 103, 3) := by decide +kernel
theorem dL_law_817 : decode cL_law 817 = .ok (.istore 5, 2) := by decide +kernel
theorem dL_law_819 : decode cL_law 819 = .ok (.aload_n 2, 1) := by decide +kernel
theorem dL_law_820 : decode cL_law 820 = .ok (.aload_n 0, 1) := by decide +kernel
theorem dL_law_821 : decode cL_law 821 = .ok (.iload 4, 2) := by decide +kernel
theorem dL_law_823 : decode cL_law 823 = .ok (.iconst 1, 1) := by decide +kernel
theorem dL_law_824 : decode cL_law 824 = .ok (.iadd, 1) := by decide +kernel
theorem dL_law_825 : decode cL_law 825 = .ok (.iaload, 1) := by decide +kernel
theorem dL_law_826 : decode cL_law 826 = .ok (.aload_n 0, 1) := by decide +kernel
theorem dL_law_827 : decode cL_law 827 = .ok (.iload 4, 2) := by decide +kernel
theorem dL_law_829 : decode cL_law 829 = .ok (.iconst 2, 1) := by decide +kernel
theorem dL_law_830 : decode cL_law 830 = .ok (.iadd, 1) := by decide +kernel
theorem dL_law_831 : decode cL_law 831 = .ok (.iaload, 1) := by decide +kernel
theorem dL_law_832 : decode cL_law 832 = .ok (.invokevirtual 105, 3) := by decide +kernel
theorem dL_law_835 : decode cL_law 835 = .ok (.istore 6, 2) := by decide +kernel
theorem dL_law_837 : decode cL_law 837 = .ok (.aload_n 2, 1) := by decide +kernel
theorem dL_law_838 : decode cL_law 838 = .ok (.invokevirtual 67, 3) := by decide +kernel
theorem dL_law_841 : decode cL_law 841 = .ok (.iload 5, 2) := by decide +kernel
theorem dL_law_843 : decode cL_law 843 = .ok (.if_icmp .eq 5, 3) := by decide +kernel
theorem dL_law_846 : decode cL_law 846 = .ok (.iconst 0, 1) := by decide +kernel
theorem dL_law_847 : decode cL_law 847 = .ok (.ireturn, 1) := by decide +kernel
theorem dL_law_848 : decode cL_law 848 = .ok (.iload 5, 2) := by decide +kernel
theorem dL_law_850 : decode cL_law 850 = .ok (.ifCond .ne 15, 3) := by decide +kernel
theorem dL_law_853 : decode cL_law 853 = .ok (.aload_n 3, 1) := by decide +kernel
theorem dL_law_854 : decode cL_law 854 = .ok (.iconst 0, 1) := by decide +kernel
theorem dL_law_855 : decode cL_law 855 = .ok (.laload, 1) := by decide +kernel
theorem dL_law_856 : decode cL_law 856 = .ok (.iload 6, 2) := by decide +kernel
theorem dL_law_858 : decode cL_law 858 = .ok (.i2l, 1) := by decide +kernel
theorem dL_law_859 : decode cL_law 859 = .ok (.lcmp, 1) := by decide +kernel
theorem dL_law_860 : decode cL_law 860 = .ok (.ifCond .eq 5, 3) := by decide +kernel
theorem dL_law_863 : decode cL_law 863 = .ok (.iconst 0, 1) := by decide +kernel
theorem dL_law_864 : decode cL_law 864 = .ok (.ireturn, 1) := by decide +kernel
theorem dL_law_865 : decode cL_law 865 = .ok (.goto 126, 3) := by decide +kernel
theorem dL_law_868 : decode cL_law 868 = .ok (.aload_n 1, 1) := by decide +kernel
theorem dL_law_869 : decode cL_law 869 = .ok (.aload_n 0, 1) := by decide +kernel
theorem dL_law_870 : decode cL_law 870 = .ok (.iload 4, 2) := by decide +kernel
theorem dL_law_872 : decode cL_law 872 = .ok (.iconst 1, 1) := by decide +kernel
theorem dL_law_873 : decode cL_law 873 = .ok (.iadd, 1) := by decide +kernel
theorem dL_law_874 : decode cL_law 874 = .ok (.iaload, 1) := by decide +kernel
theorem dL_law_875 : decode cL_law 875 = .ok (.aload_n 0, 1) := by decide +kernel
theorem dL_law_876 : decode cL_law 876 = .ok (.iload 4, 2) := by decide +kernel
theorem dL_law_878 : decode cL_law 878 = .ok (.iconst 2, 1) := by decide +kernel
theorem dL_law_879 : decode cL_law 879 = .ok (.iadd, 1) := by decide +kernel
theorem dL_law_880 : decode cL_law 880 = .ok (.iaload, 1) := by decide +kernel
theorem dL_law_881 : decode cL_law 881 = .ok (.aload_n 3, 1) := by decide +kernel
theorem dL_law_882 : decode cL_law 882 = .ok (.invokestatic 106, 3) := by decide +kernel
theorem dL_law_885 : decode cL_law 885 = .ok (.istore 5, 2) := by decide +kernel
theorem dL_law_887 : decode cL_law 887 = .ok (.aload_n 2, 1) := by decide +kernel
theorem dL_law_888 : decode cL_law 888 = .ok (.aload_n 0, 1) := by decide +kernel
theorem dL_law_889 : decode cL_law 889 = .ok (.iload 4, 2) := by decide +kernel
theorem dL_law_891 : decode cL_law 891 = .ok (.iconst 1, 1) := by decide +kernel
theorem dL_law_892 : decode cL_law 892 = .ok (.iadd, 1) := by decide +kernel
theorem dL_law_893 : decode cL_law 893 = .ok (.iaload, 1) := by decide +kernel
theorem dL_law_894 : decode cL_law 894 = .ok (.aload_n 0, 1) := by decide +kernel
theorem dL_law_895 : decode cL_law 895 = .ok (.iload 4, 2) := by decide +kernel
theorem dL_law_897 : decode cL_law 897 = .ok (.iconst 2, 1) := by decide +kernel
theorem dL_law_898 : decode cL_law 898 = .ok (.iadd, 1) := by decide +kernel
theorem dL_law_899 : decode cL_law 899 = .ok (.iaload, 1) := by decide +kernel
theorem dL_law_900 : decode cL_law 900 = .ok (.invokevirtual 108, 3) := by decide +kernel
theorem dL_law_903 : decode cL_law 903 = .ok (.istore 6, 2) := by decide +kernel
theorem dL_law_905 : decode cL_law 905 = .ok (.aload_n 2, 1) := by decide +kernel
theorem dL_law_906 : decode cL_law 906 = .ok (.invokevirtual 67, 3) := by decide +kernel
theorem dL_law_909 : decode cL_law 909 = .ok (.iload 5, 2) := by decide +kernel
theorem dL_law_911 : decode cL_law 911 = .ok (.if_icmp .eq 5, 3) := by decide +kernel
theorem dL_law_914 : decode cL_law 914 = .ok (.iconst 0, 1) := by decide +kernel
theorem dL_law_915 : decode cL_law 915 = .ok (.ireturn, 1) := by decide +kernel
theorem dL_law_916 : decode cL_law 916 = .ok (.iload 5, 2) := by decide +kernel
theorem dL_law_918 : decode cL_law 918 = .ok (.ifCond .ne 15, 3) := by decide +kernel
theorem dL_law_921 : decode cL_law 921 = .ok (.aload_n 3, 1) := by decide +kernel
theorem dL_law_922 : decode cL_law 922 = .ok (.iconst 0, 1) := by decide +kernel
theorem dL_law_923 : decode cL_law 923 = .ok (.laload, 1) := by decide +kernel
theorem dL_law_924 : decode cL_law 924 = .ok (.iload 6, 2) := by decide +kernel
theorem dL_law_926 : decode cL_law 926 = .ok (.i2l, 1) := by decide +kernel
theorem dL_law_927 : decode cL_law 927 = .ok (.lcmp, 1) := by decide +kernel
theorem dL_law_928 : decode cL_law 928 = .ok (.ifCond .eq 5, 3) := by decide +kernel
theorem dL_law_931 : decode cL_law 931 = .ok (.iconst 0, 1) := by decide +kernel
theorem dL_law_932 : decode cL_law 932 = .ok (.ireturn, 1) := by decide +kernel
theorem dL_law_933 : decode cL_law 933 = .ok (.goto 58, 3) := by decide +kernel
theorem dL_law_936 : decode cL_law 936 = .ok (.aload_n 1, 1) := by decide +kernel
theorem dL_law_937 : decode cL_law 937 = .ok (.invokevirtual 109, 3) := by decide +kernel
theorem dL_law_940 : decode cL_law 940 = .ok (.dstore 5, 2) := by decide +kernel
theorem dL_law_942 : decode cL_law 942 = .ok (.aload_n 2, 1) := by decide +kernel
theorem dL_law_943 : decode cL_law 943 = .ok (.invokevirtual 113, 3) := by decide +kernel
theorem dL_law_946 : decode cL_law 946 = .ok (.dstore 7, 2) := by decide +kernel
theorem dL_law_948 : decode cL_law 948 = .ok (.dload 5, 2) := by decide +kernel
theorem dL_law_950 : decode cL_law 950 = .ok (.dload 7, 2) := by decide +kernel
theorem dL_law_952 : decode cL_law 952 = .ok (.dcmp .l, 1) := by decide +kernel
theorem dL_law_953 : decode cL_law 953 = .ok (.ifCond .eq 21, 3) := by decide +kernel
theorem dL_law_956 : decode cL_law 956 = .ok (.dload 5, 2) := by decide +kernel
theorem dL_law_958 : decode cL_law 958 = .ok (.dload 5, 2) := by decide +kernel
theorem dL_law_960 : decode cL_law 960 = .ok (.dcmp .l, 1) := by decide +kernel
theorem dL_law_961 : decode cL_law 961 = .ok (.ifCond .eq 11, 3) := by decide +kernel
theorem dL_law_964 : decode cL_law 964 = .ok (.dload 7, 2) := by decide +kernel
theorem dL_law_966 : decode cL_law 966 = .ok (.dload 7, 2) := by decide +kernel
theorem dL_law_968 : decode cL_law 968 = .ok (.dcmp .l, 1) := by decide +kernel
theorem dL_law_969 : decode cL_law 969 = .ok (.ifCond .ne 5, 3) := by decide +kernel
theorem dL_law_972 : decode cL_law 972 = .ok (.iconst 0, 1) := by decide +kernel
theorem dL_law_973 : decode cL_law 973 = .ok (.ireturn, 1) := by decide +kernel
theorem dL_law_974 : decode cL_law 974 = .ok (.goto 17, 3) := by decide +kernel
theorem dL_law_977 : decode cL_law 977 = .ok (.aload_n 1, 1) := by decide +kernel
theorem dL_law_978 : decode cL_law 978 = .ok (.invokevirtual 114, 3) := by decide +kernel
theorem dL_law_981 : decode cL_law 981 = .ok (.aload_n 2, 1) := by decide +kernel
theorem dL_law_982 : decode cL_law 982 = .ok (.invokevirtual 118, 3) := by decide +kernel
theorem dL_law_985 : decode cL_law 985 = .ok (.lcmp, 1) := by decide +kernel
theorem dL_law_986 : decode cL_law 986 = .ok (.ifCond .eq 5, 3) := by decide +kernel
theorem dL_law_989 : decode cL_law 989 = .ok (.iconst 0, 1) := by decide +kernel
theorem dL_law_990 : decode cL_law 990 = .ok (.ireturn, 1) := by decide +kernel
theorem dL_law_991 : decode cL_law 991 = .ok (.iinc 4 4, 3) := by decide +kernel
theorem dL_law_994 : decode cL_law 994 = .ok (.goto (-971), 3) := by decide +kernel
theorem dL_law_997 : decode cL_law 997 = .ok (.iconst 1, 1) := by decide +kernel
theorem dL_law_998 : decode cL_law 998 = .ok (.ireturn, 1) := by decide +kernel
/-! ===== END printed: names ===== -/
end
section
/-! ===== my worlds: the cells of a list of indices L, each at the address 'ad k', with the entry 'E k' ===== -/
def fW (L : List Nat) (ad : Nat → Nat) (E : Nat → va_E) : va_W := L.map (fun k => (ad k, E k))
theorem fW_get {L : List Nat} {ad : Nat → Nat} {E : Nat → va_E} {k : Nat} (h : k ∈ L) : ∃ i : Nat, (fW L ad E)[i]? = some (ad k, E k) := List.getElem?_of_mem (List.mem_map.mpr ⟨k, h, rfl⟩)
theorem fW_at {L : List Nat} {ad : Nat → Nat} {E : Nat → va_E} {k i : Nat} (h : L[i]? = some k) : (fW L ad E)[i]? = some (ad k, E k) := by
  simp [fW, h]
theorem fW_set {A : Nat → Prop} {L : List Nat} {ad : Nat → Nat} {E : Nat → va_E} {k i : Nat} {e : va_E} (hD : va_D A (fW L ad E)) (hk : k ∈ L) (hi : (fW L ad E)[i]? = some (ad k, E k)) : (fW L ad E).set i (ad k, e) = fW L ad (va_up E k e) := by
  obtain ⟨i0, h0⟩ := List.getElem?_of_mem hk
  have h1 : (fW L ad E)[i0]? = some (ad k, E k) := fW_at h0
  have h2 : i0 = i := hD.1 i0 i _ _ h1 hi rfl
  subst h2
  have hl : i0 < (fW L ad E).length := (List.getElem?_eq_some_iff.mp h1).1
  apply List.ext_getElem?
  intro j
  by_cases hj : j = i0
  · subst hj
    rw [List.getElem?_set_self hl, fW_at h0, va_up_self]
  · rw [List.getElem?_set_ne (Ne.symm hj)]
    simp only [fW, List.getElem?_map]
    cases hb : L[j]? with
    | none => rfl
    | some b =>
      have hbk : b ≠ k := by
        intro hbk
        subst hbk
        exact hj (hD.1 j i0 _ _ (fW_at hb) h1 rfl)
      simp only [Option.map_some, va_up_ne _ _ hbk]
theorem fW_push {L : List Nat} {ad : Nat → Nat} {E : Nat → va_E} {k q : Nat} {e : va_E} (h : k ∉ L) : fW L ad E ++ [(q, e)] = fW (L ++ [k]) (va_up ad k q) (va_up E k e) := by
  simp only [fW, List.map_append, List.map_cons, List.map_nil, va_up_self]
  congr 1
  apply List.map_congr_left
  intro b hb
  have : b ≠ k := fun q => h (q ▸ hb)
  rw [va_up_ne _ _ this, va_up_ne _ _ this]
theorem fW_congr {L : List Nat} {ad ad' : Nat → Nat} {E E' : Nat → va_E} (h : ∀ k, k ∈ L → ad k = ad' k ∧ E k = E' k) : fW L ad E = fW L ad' E' := by
  apply List.map_congr_left
  intro b hb
  rw [(h b hb).1, (h b hb).2]
/-- the invariant of a walk: the world at H, apart, and nothing outside A changed since H0 -/
def fI (D : va_G) (A : Nat → Prop) (H0 : Heap) (ad : Nat → Nat) (L : List Nat) (E : Nat → va_E) (H : Heap) (locs : List Loc) : Prop := va_P D vwCl (fW L ad E) H ∧ va_D A (fW L ad E) ∧ va_S A H0 H locs
/-- the addresses that the system may use: from z on -/
abbrev fA (z : Nat) : Nat → Prop := fun q => z ≤ q
abbrev fTys (cI cJ cB : ClassId) : List (ClassId × FieldType) := [(cI, .int), (cJ, .long), (cB, .object RX0)]
def fTen : Nat → Int32 := fun j => match j with
  | 0 => 1
  | 1 => 10
  | 2 => 100
  | 3 => 1000
  | 4 => 10000
  | 5 => 100000
  | _ => 1000000
def fNest : List Cond := [.methodLinkNest RX3 9 yX2_init RX3, .methodLinkNest RX1 22 yX0_init RX3, .methodLinkNest RX5 24 yX4_init RX5,
  .fieldLinkNest RX5 84 RX4 "place" "[I" RX5, .fieldLinkNest RX5 52 RX4 "lane" "[I" RX5, .fieldLinkNest RX5 87 RX4 "heads" "[I" RX5, .fieldLinkNest RX5 78 RX4 "soaked" "[I" RX5, .fieldLinkNest RX5 81 RX4 "fouls" "[I" RX5, .fieldLinkNest RX5 55 RX4 "came" "[I" RX5, .fieldLinkNest RX5 93 RX4 "spins" "[I" RX5, .fieldLinkNest RX5 96 RX4 "stops" "[I" RX5, .fieldLinkNest RX5 58 RX4 "length" "[I" RX5, .fieldLinkNest RX5 61 RX4 "strokes" "[I" RX5,
  .fieldLinkNest RX4 102 RX5 "water" "[I" RX5, .fieldLinkNest RX4 86 RX5 "weirs" "I" RX5, .fieldLinkNest RX4 89 RX5 "weirAt" "[I" RX5, .fieldLinkNest RX4 92 RX5 "gap" "[I" RX5, .fieldLinkNest RX4 112 RX5 "boats" "I" RX5, .fieldLinkNest RX4 80 RX5 "strength" "[I" RX5, .fieldLinkNest RX4 64 RX5 "TENS" "[I" RX5]
def fNestOk (w : Cond) : Prop := (∃ a i b n d h, w = .fieldLinkNest a i b n d h) ∨ ∃ a i x h, w = .methodLinkNest a i x h
theorem fNest_ok : ∀ w ∈ fNest, fNestOk w := by
  intro w hw
  simp only [fNest, List.mem_cons, List.mem_nil_iff, or_false] at hw
  rcases hw with h | h | h | h | h | h | h | h | h | h | h | h | h | h | h | h | h | h | h | h <;> subst h
  · exact Or.inr ⟨_, _, _, _, rfl⟩
  · exact Or.inr ⟨_, _, _, _, rfl⟩
  · exact Or.inr ⟨_, _, _, _, rfl⟩
  all_goals exact Or.inl ⟨_, _, _, _, _, _, rfl⟩
theorem fNest_warm {w : Cond} (hw : fNestOk w) {s U : State} (hW : s.WarmedH U.vm) (h : va_Nw w s) : va_Nw w U := by
  rcases hw with ⟨a, i, b, n, d, k, rfl⟩ | ⟨a, i, x, k, rfl⟩
  · exact va_Nw.warmF hW h
  · exact va_Nw.warmM hW h
/-- the texts of the exceptions that the class throws, by their places -/
def fTexts : List (Nat × String) := [(32, "no such lane"), (39, "water is 0 to 6"), (46, "a weir's place is 1 to 199"), (48, "a gap is in a lane, 0 to 4"), (56, "there are 6 weirs"), (62, "there is a weir at this place"), (68, "a lane is 0 to 4"), (72, "strength is 1 to 8"), (77, "there are 6 boats"), (86, "no such boat"), (88, "a pattern has 1 to 6 strokes"), (94, "strokes are at most length digits, each 0 to 3"), (110, "this boat is in"), (116, "what is 0 to 8"), (122, "what is 0 to 6"), (128, "a place is 0 to 200"), (137, "ticks are 1 to 200"), (156, "what is 3 to 6"), (161, "ticks are 1 to 60")]
/-- what every method needs of the machine beside its words: classes, links of nest mates, the table of tens, the two fields that Throwable() reads -/
def fG (D : va_G) (cI cJ cB : ClassId) (t0 z : Nat) (tx : Nat → Nat) (U : State) : Prop :=
  va_K D vwCl (fTys cI cJ cB) U ∧ (∀ w ∈ fNest, va_Nw w U) ∧ va_Z RX5 "TENS" "[I" (.ref t0) (fA z) U U.heap ∧ va_T .int t0 7 (fun j => .int (fTen j)) (fA z) U U.heap ∧ z ≤ U.heap.size
  ∧ vx_Zq Bundle.tN "UNASSIGNED_STACK" Bundle.steD (fA z) U U.heap ∧ vx_Zq Bundle.tN "SUPPRESSED_SENTINEL" Bundle.listD (fA z) U U.heap ∧ (∀ q ∈ fTexts, vk_R RX3 q.1 q.2 (tx q.1) U)
def fPre (D : va_G) (cI cJ cB : ClassId) (t0 z : Nat) (tx : Nat → Nat) (ad : Nat → Nat) (L : List Nat) (E : Nat → va_E) (U : State) : Prop :=
  fG D cI cJ cB t0 z tx U ∧ va_P D vwCl (fW L ad E) U.heap ∧ va_D (fA z) (fW L ad E)
def fB (D : va_G) (z : Nat) (ad : Nat → Nat) (L : List Nat) (E : Nat → va_E) (t : State) : Prop := va_P D vwCl (fW L ad E) t.heap ∧ va_D (fA z) (fW L ad E)
theorem fG_call {D : va_G} {cI cJ cB : ClassId} {t0 z : Nat} {tx : Nat → Nat} {s U : State} {H : Heap} {locs : List Loc} (h : fG D cI cJ cB t0 z tx s) (hS : va_S (fA z) s.heap H locs) (hU : U.heap = H) (hW : s.WarmedH U.vm) : fG D cI cJ cB t0 z tx U := by
  obtain ⟨h1, h2, h3, h4, h5, h6, h7, h8⟩ := h
  have hq : ∀ a : Nat, a < s.heap.size → ¬ fA z a → U.heap[a]? = s.heap[a]? := by rw [hU]; exact hS.2.1
  exact ⟨h1.moved hW.alike, fun w hw => fNest_warm (fNest_ok w hw) hW (h2 w hw), va_Z.moved hW.alike (h3.kept hq), va_T.moved hW.alike (h4.kept hq), by rw [hU]; exact Nat.le_trans h5 hS.1, vx_Zq.moved hW.alike (h6.kept hq), vx_Zq.moved hW.alike (h7.kept hq), fun q hq => vk_R.warm hW (h8 q hq)⟩
theorem fG_blind {D : va_G} {cI cJ cB : ClassId} {t0 z : Nat} {tx : Nat → Nat} {a : Array Value} {U : State} {g : JFrame} {mk : MethodId} (h : fG D cI cJ cB t0 z tx U) : fG D cI cJ cB t0 z tx (U.calling g mk a) := by
  obtain ⟨h1, h2, h3, h4, h5, h6, h7, h8⟩ := h
  have hA : U.vm.Alike (U.calling g mk a).vm := Vm.Alike.refl U.vm
  exact ⟨h1.moved hA, fun w hw => fNest_warm (fNest_ok w hw) (State.WarmedH.refl U) (h2 w hw), va_Z.moved hA h3, va_T.moved hA h4, h5, vx_Zq.moved hA h6, vx_Zq.moved hA h7, fun q hq => vk_R.same (rfl : (U.calling g mk a).vm = U.vm) (h8 q hq)⟩
theorem fPre_blind {av : List Value} {D : va_G} {cI cJ cB : ClassId} {t0 z : Nat} {tx : Nat → Nat} {ad : Nat → Nat} {L : List Nat} {E : Nat → va_E} : FrameBlind (va_Pc av (fPre D cI cJ cB t0 z tx ad L E)) := fun a U g mk q => ⟨q.1, fG_blind q.2.1, q.2.2.1, q.2.2.2⟩
theorem fPre_of {av : List Value} {D : va_G} {cI cJ cB : ClassId} {t0 z : Nat} {tx : Nat → Nat} {s : State} {ad : Nat → Nat} {L : List Nat} {E : Nat → va_E} {H : Heap} {locs : List Loc} (hG : fG D cI cJ cB t0 z tx s) (hI : fI D (fA z) s.heap ad L E H locs) : PreS s H (va_Pc av (fPre D cI cJ cB t0 z tx ad L E)) av :=
  ⟨fPre_blind, fun U hU hW => ⟨rfl, fG_call hG hI.2.2 hU hW, by rw [hU]; exact hI.1, hI.2.1⟩⟩
theorem fPre_ofV {As : List Value} {D : va_G} {cI cJ cB : ClassId} {t0 z : Nat} {tx : Nat → Nat} {s : State} {ad : Nat → Nat} {L : List Nat} {E : Nat → va_E} {H : Heap} {locs : List Loc} (hG : fG D cI cJ cB t0 z tx s) (hI : fI D (fA z) s.heap ad L E H locs) {k ci a : Nat} {fs : List Value} {r : vw_C} {C : String} (ha : ad k = a) (hk : k ∈ L) (he : E k = .inr (ci, fs)) (hc : vwCl[ci]? = some r) (hC : r.1 = C) : PreV s H C a (va_Pc (.ref a :: As) (fPre D cI cJ cB t0 z tx ad L E)) As := by
  subst hC
  subst ha
  obtain ⟨i, hi⟩ := fW_get (ad := ad) (E := E) hk
  rw [he] at hi
  exact ⟨fPre_blind, va_recv hG.1 hI.1 hc hi, fun U hU hW => ⟨rfl, fG_call hG hI.2.2 hU hW, by rw [hU]; exact hI.1, hI.2.1⟩⟩
section FR
variable {p : Program} {l : Launch} {e : Env} {R : Room} {s : State} {m : MethodId} {args : Array Value} {below : List Frame} {meth : Method} {c : Code} {H H0 : Heap} {locs : List Loc} {cells slots : Nat} {Q : State → Prop}
variable {cc : ByteArray} {pc : Nat} {ls : Array Slot} {rest st0 : List Value} {D : va_G} {A : Nat → Prop} {tys : List (ClassId × FieldType)} {ad : Nat → Nat} {L : List Nat} {E : Nat → va_E}
theorem f_get (hexec : p.tables.exec = Jvm.exec) (hb : c.code = cc) {own C : String} {T : u_T} {N ci index : Nat} {Ts : List Cond} (hts : ∀ w ∈ Ts, w.before args s = true) (hin : ∀ w ∈ u_ws C T N, w ∈ Ts) (hown : s.vm.findClass own = some m.cls) (hK : va_K D vwCl tys s) (hI : fI D A H0 ad L E H locs) {k a : Nat} (ha : ad k = a) (hk : k ∈ L) {fs : List Value} (he : E k = .inr (ci, fs)) (hc : vwCl[ci]? = some (C, T, N)) (j : Nat) (hj : j < N) (hlink : (Cond.fieldLink own index (T j).1 (T j).2.1 (T j).2.2.1).before args s = true) {v : Value} (hv : fs[j]? = some v) (hdg : decode cc pc = .ok (.getfield index, 3))
    (kk : W p l e R s m args below meth c H locs cells slots Q (F0 m (pc + 3) ls (v :: rest))) : W p l e R s m args below meth c H locs cells slots Q (F0 m pc ls (.ref a :: rest)) := by
  subst ha
  obtain ⟨i, hi⟩ := fW_get (ad := ad) (E := E) hk
  rw [he] at hi
  exact va_get hexec hb hts hin hown hK hI.1 i hi hc j hj hlink (fun _ h9 => h9) hv hdg kk
theorem f_getN (hexec : p.tables.exec = Jvm.exec) (hb : c.code = cc) {own C host : String} {T : u_T} {N ci index : Nat} {Ts : List Cond} (hts : ∀ w ∈ Ts, w.before args s = true) (hin : ∀ w ∈ u_ws C T N, w ∈ Ts) (hown : s.vm.findClass own = some m.cls) (hK : va_K D vwCl tys s) (hI : fI D A H0 ad L E H locs) {k a : Nat} (ha : ad k = a) (hk : k ∈ L) {fs : List Value} (he : E k = .inr (ci, fs)) (hc : vwCl[ci]? = some (C, T, N)) (j : Nat) (hj : j < N) (hlink : va_Nw (.fieldLinkNest own index (T j).1 (T j).2.1 (T j).2.2.1 host) s) {v : Value} (hv : fs[j]? = some v) (hdg : decode cc pc = .ok (.getfield index, 3))
    (kk : W p l e R s m args below meth c H locs cells slots Q (F0 m (pc + 3) ls (v :: rest))) : W p l e R s m args below meth c H locs cells slots Q (F0 m pc ls (.ref a :: rest)) := by
  subst ha
  obtain ⟨i, hi⟩ := fW_get (ad := ad) (E := E) hk
  rw [he] at hi
  exact va_getN hexec hb hts hin hown hK hI.1 i hi hc j hj (va_Nw.use rfl hlink) (fun _ h9 => h9) hv hdg kk
theorem f_put (hexec : p.tables.exec = Jvm.exec) (hb : c.code = cc) {own C : String} {T : u_T} {N ci index : Nat} {Ts : List Cond} (hts : ∀ w ∈ Ts, w.before args s = true) (hin : ∀ w ∈ u_ws C T N, w ∈ Ts) (ty0 : Nat → FieldType) (hty : ∀ k, k < N → parseFieldDescriptor (T k).2.2.1 = some (ty0 k)) (hnm : ∀ a, a < N → ∀ b, b < N → a ≠ b → (T a).2.1 ≠ (T b).2.1) (hown : s.vm.findClass own = some m.cls) (hK : va_K D vwCl tys s) (hI : fI D A H0 ad L E H locs) {k a : Nat} (ha : ad k = a) (hk : k ∈ L) {fs : List Value} (he : E k = .inr (ci, fs)) (hc : vwCl[ci]? = some (C, T, N)) (j : Nat) (hj : j < N) (hlink : (Cond.fieldLink own index (T j).1 (T j).2.1 (T j).2.2.1).before args s = true) (hfin : (T j).2.2.2 = false) {v : Value} (hn : narrow (ty0 j) v = v) (hfit : fits (ty0 j) v = true) (hl : j < fs.length) (hdg : decode cc pc = .ok (.putfield index, 3))
    (kk : ∀ (E1 : Nat → va_E) (H1 : Heap) (locs1 : List Loc), E1 k = .inr (ci, fs.set j v) → (∀ q, q ≠ k → E1 q = E q) → fI D A H0 ad L E1 H1 locs1 → W p l e R s m args below meth c H1 locs1 cells slots Q (F0 m (pc + 3) ls rest)) : W p l e R s m args below meth c H locs cells slots Q (F0 m pc ls (v :: .ref a :: rest)) := by
  subst ha
  obtain ⟨i, hi⟩ := fW_get (ad := ad) (E := E) hk
  have hi2 := hi
  rw [he] at hi2
  refine va_put hexec hb hts hin ty0 hty hnm hown hK hI.1 hI.2.1 hI.2.2 i hi2 hc j hj hlink (fun _ h9 => h9) hfin (hty j hj) hn hfit hl hdg (fun H1 locs1 hP hD hS => ?_)
  rw [fW_set hI.2.1 hk hi] at hP hD
  exact kk _ H1 locs1 (va_up_self _ _ _) (fun q hq => va_up_ne _ _ hq) ⟨hP, hD, hS⟩
theorem f_putN (hexec : p.tables.exec = Jvm.exec) (hb : c.code = cc) {own C host : String} {T : u_T} {N ci index : Nat} {Ts : List Cond} (hts : ∀ w ∈ Ts, w.before args s = true) (hin : ∀ w ∈ u_ws C T N, w ∈ Ts) (ty0 : Nat → FieldType) (hty : ∀ k, k < N → parseFieldDescriptor (T k).2.2.1 = some (ty0 k)) (hnm : ∀ a, a < N → ∀ b, b < N → a ≠ b → (T a).2.1 ≠ (T b).2.1) (hown : s.vm.findClass own = some m.cls) (hK : va_K D vwCl tys s) (hI : fI D A H0 ad L E H locs) {k a : Nat} (ha : ad k = a) (hk : k ∈ L) {fs : List Value} (he : E k = .inr (ci, fs)) (hc : vwCl[ci]? = some (C, T, N)) (j : Nat) (hj : j < N) (hlink : va_Nw (.fieldLinkNest own index (T j).1 (T j).2.1 (T j).2.2.1 host) s) (hfin : (T j).2.2.2 = false) {v : Value} (hn : narrow (ty0 j) v = v) (hfit : fits (ty0 j) v = true) (hl : j < fs.length) (hdg : decode cc pc = .ok (.putfield index, 3))
    (kk : ∀ (E1 : Nat → va_E) (H1 : Heap) (locs1 : List Loc), E1 k = .inr (ci, fs.set j v) → (∀ q, q ≠ k → E1 q = E q) → fI D A H0 ad L E1 H1 locs1 → W p l e R s m args below meth c H1 locs1 cells slots Q (F0 m (pc + 3) ls rest)) : W p l e R s m args below meth c H locs cells slots Q (F0 m pc ls (v :: .ref a :: rest)) := by
  subst ha
  obtain ⟨i, hi⟩ := fW_get (ad := ad) (E := E) hk
  have hi2 := hi
  rw [he] at hi2
  refine va_putN hexec hb hts hin ty0 hty hnm hown hK hI.1 hI.2.1 hI.2.2 i hi2 hc j hj (va_Nw.use rfl hlink) (fun _ h9 => h9) hfin (hty j hj) hn hfit hl hdg (fun H1 locs1 hP hD hS => ?_)
  rw [fW_set hI.2.1 hk hi] at hP hD
  exact kk _ H1 locs1 (va_up_self _ _ _) (fun q hq => va_up_ne _ _ hq) ⟨hP, hD, hS⟩
theorem f_putF (hexec : p.tables.exec = Jvm.exec) (hb : c.code = cc) {own C : String} {T : u_T} {N ci index : Nat} {Ts : List Cond} (hts : ∀ w ∈ Ts, w.before args s = true) (hin : ∀ w ∈ u_ws C T N, w ∈ Ts) (ty0 : Nat → FieldType) (hty : ∀ k, k < N → parseFieldDescriptor (T k).2.2.1 = some (ty0 k)) (hnm : ∀ a, a < N → ∀ b, b < N → a ≠ b → (T a).2.1 ≠ (T b).2.1) (hown : s.vm.findClass own = some m.cls) (hK : va_K D vwCl tys s) (hI : fI D A H0 ad L E H locs) {k a : Nat} (ha : ad k = a) (hk : k ∈ L) {fs : List Value} (he : E k = .inr (ci, fs)) (hc : vwCl[ci]? = some (C, T, N)) (j : Nat) (hj : j < N) (hlink : (Cond.fieldLink own index (T j).1 (T j).2.1 (T j).2.2.1).before args s = true) (hfin : (T j).2.2.2 = true) (hin2 : meth.name = "<init>") (hdecl : (T j).1 = own) {v : Value} (hn : narrow (ty0 j) v = v) (hfit : fits (ty0 j) v = true) (hl : j < fs.length) (hdg : decode cc pc = .ok (.putfield index, 3))
    (kk : ∀ (E1 : Nat → va_E) (H1 : Heap) (locs1 : List Loc), E1 k = .inr (ci, fs.set j v) → (∀ q, q ≠ k → E1 q = E q) → fI D A H0 ad L E1 H1 locs1 → W p l e R s m args below meth c H1 locs1 cells slots Q (F0 m (pc + 3) ls rest)) : W p l e R s m args below meth c H locs cells slots Q (F0 m pc ls (v :: .ref a :: rest)) := by
  subst ha
  obtain ⟨i, hi⟩ := fW_get (ad := ad) (E := E) hk
  have hi2 := hi
  rw [he] at hi2
  refine va_putF hexec hb hts hin ty0 hty hnm hown hK hI.1 hI.2.1 hI.2.2 i hi2 hc j hj hlink (fun _ h9 => h9) hfin hin2 hdecl (hty j hj) hn hfit hl hdg (fun H1 locs1 hP hD hS => ?_)
  rw [fW_set hI.2.1 hk hi] at hP hD
  exact kk _ H1 locs1 (va_up_self _ _ _) (fun q hq => va_up_ne _ _ hq) ⟨hP, hD, hS⟩
theorem f_iald (hexec : p.tables.exec = Jvm.exec) (hb : c.code = cc) {cI cJ cB : ClassId} (hK : va_K D vwCl (fTys cI cJ cB) s) (hI : fI D A H0 ad L E H locs) {k a : Nat} (ha : ad k = a) (hk : k ∈ L) {n : Nat} {f : Nat → Int32} (he : E k = .inl (cI, n, .inl f)) {i : Int32} (hin : vp_in i n) (hdg : decode cc pc = .ok (.iaload, 1))
    (kk : W p l e R s m args below meth c H locs cells slots Q (F0 m (pc + 1) ls (.int (f i.toNatClampNeg) :: rest))) : W p l e R s m args below meth c H locs cells slots Q (F0 m pc ls (.int i :: .ref a :: rest)) := by
  subst ha
  obtain ⟨q, hi⟩ := fW_get (ad := ad) (E := E) hk
  rw [he] at hi
  exact va_iald hexec hb hK hI.1 q 0 hi rfl hin hdg kk
theorem f_lald (hexec : p.tables.exec = Jvm.exec) (hb : c.code = cc) {cI cJ cB : ClassId} (hK : va_K D vwCl (fTys cI cJ cB) s) (hI : fI D A H0 ad L E H locs) {k a : Nat} (ha : ad k = a) (hk : k ∈ L) {n : Nat} {f : Nat → Int64} (he : E k = .inl (cJ, n, .inr (.inl f))) {i : Int32} (hin : vp_in i n) (hdg : decode cc pc = .ok (.laload, 1))
    (kk : W p l e R s m args below meth c H locs cells slots Q (F0 m (pc + 1) ls (.long (f i.toNatClampNeg) :: rest))) : W p l e R s m args below meth c H locs cells slots Q (F0 m pc ls (.int i :: .ref a :: rest)) := by
  subst ha
  obtain ⟨q, hi⟩ := fW_get (ad := ad) (E := E) hk
  rw [he] at hi
  exact va_lald hexec hb hK hI.1 q 1 hi rfl hin hdg kk
theorem f_aldq (hexec : p.tables.exec = Jvm.exec) (hb : c.code = cc) {cI cJ cB : ClassId} (hK : va_K D vwCl (fTys cI cJ cB) s) (hI : fI D A H0 ad L E H locs) {k a : Nat} (ha : ad k = a) (hk : k ∈ L) {n : Nat} {f : Nat → Option Nat} (he : E k = .inl (cB, n, .inr (.inr (.inr (.inr f))))) {i : Int32} (hin : vp_in i n) {v : Value} (hv : va_rf (f i.toNatClampNeg) = v) (hdg : decode cc pc = .ok (.aaload, 1))
    (kk : W p l e R s m args below meth c H locs cells slots Q (F0 m (pc + 1) ls (v :: rest))) : W p l e R s m args below meth c H locs cells slots Q (F0 m pc ls (.int i :: .ref a :: rest)) := by
  subst ha
  obtain ⟨q, hi⟩ := fW_get (ad := ad) (E := E) hk
  rw [he] at hi
  subst hv
  exact va_aldq hexec hb hK hI.1 q 2 hi rfl hin hdg kk
theorem f_iast (hexec : p.tables.exec = Jvm.exec) (hb : c.code = cc) {cI cJ cB : ClassId} (hK : va_K D vwCl (fTys cI cJ cB) s) (hI : fI D A H0 ad L E H locs) {k a : Nat} (ha : ad k = a) (hk : k ∈ L) {n : Nat} {f : Nat → Int32} (he : E k = .inl (cI, n, .inl f)) {i x : Int32} (hin : vp_in i n) (hdg : decode cc pc = .ok (.iastore, 1))
    (kk : ∀ (E1 : Nat → va_E) (H1 : Heap) (locs1 : List Loc), E1 k = .inl (cI, n, .inl (upd f i.toNatClampNeg x)) → (∀ q, q ≠ k → E1 q = E q) → fI D A H0 ad L E1 H1 locs1 → W p l e R s m args below meth c H1 locs1 cells slots Q (F0 m (pc + 1) ls rest)) : W p l e R s m args below meth c H locs cells slots Q (F0 m pc ls (.int x :: .int i :: .ref a :: rest)) := by
  subst ha
  obtain ⟨q, hi⟩ := fW_get (ad := ad) (E := E) hk
  have hi2 := hi
  rw [he] at hi2
  refine va_iast hexec hb hK hI.1 hI.2.1 hI.2.2 q 0 hi2 rfl hin hdg (fun H1 locs1 hP hD hS => ?_)
  rw [fW_set hI.2.1 hk hi] at hP hD
  exact kk _ H1 locs1 (va_up_self _ _ _) (fun q hq => va_up_ne _ _ hq) ⟨hP, hD, hS⟩
theorem f_last (hexec : p.tables.exec = Jvm.exec) (hb : c.code = cc) {cI cJ cB : ClassId} (hK : va_K D vwCl (fTys cI cJ cB) s) (hI : fI D A H0 ad L E H locs) {k a : Nat} (ha : ad k = a) (hk : k ∈ L) {n : Nat} {f : Nat → Int64} (he : E k = .inl (cJ, n, .inr (.inl f))) {i : Int32} {x : Int64} (hin : vp_in i n) (hdg : decode cc pc = .ok (.lastore, 1))
    (kk : ∀ (E1 : Nat → va_E) (H1 : Heap) (locs1 : List Loc), E1 k = .inl (cJ, n, .inr (.inl (vp_updL f i.toNatClampNeg x))) → (∀ q, q ≠ k → E1 q = E q) → fI D A H0 ad L E1 H1 locs1 → W p l e R s m args below meth c H1 locs1 cells slots Q (F0 m (pc + 1) ls rest)) : W p l e R s m args below meth c H locs cells slots Q (F0 m pc ls (.long x :: .int i :: .ref a :: rest)) := by
  subst ha
  obtain ⟨q, hi⟩ := fW_get (ad := ad) (E := E) hk
  have hi2 := hi
  rw [he] at hi2
  refine va_last hexec hb hK hI.1 hI.2.1 hI.2.2 q 1 hi2 rfl hin hdg (fun H1 locs1 hP hD hS => ?_)
  rw [fW_set hI.2.1 hk hi] at hP hD
  exact kk _ H1 locs1 (va_up_self _ _ _) (fun q hq => va_up_ne _ _ hq) ⟨hP, hD, hS⟩
theorem f_astq (hexec : p.tables.exec = Jvm.exec) (hb : c.code = cc) {cI cJ cB : ClassId} (hK : va_K D vwCl (fTys cI cJ cB) s) (hI : fI D A H0 ad L E H locs) {k a : Nat} (ha : ad k = a) (hk : k ∈ L) {n : Nat} {f : Nat → Option Nat} (he : E k = .inl (cB, n, .inr (.inr (.inr (.inr f))))) {kv av : Nat} (hav : ad kv = av) (hkv : kv ∈ L) {vs : List Value} (hev : E kv = .inr (0, vs)) {i : Int32} (hin : vp_in i n) (hdg : decode cc pc = .ok (.aastore, 1))
    (kk : ∀ (E1 : Nat → va_E) (H1 : Heap) (locs1 : List Loc), E1 k = .inl (cB, n, .inr (.inr (.inr (.inr (va_up f i.toNatClampNeg (some av)))))) → (∀ q, q ≠ k → E1 q = E q) → fI D A H0 ad L E1 H1 locs1 → W p l e R s m args below meth c H1 locs1 cells slots Q (F0 m (pc + 1) ls rest)) : W p l e R s m args below meth c H locs cells slots Q (F0 m pc ls (.ref av :: .int i :: .ref a :: rest)) := by
  subst ha
  subst hav
  obtain ⟨q, hi⟩ := fW_get (ad := ad) (E := E) hk
  obtain ⟨qv, hiv⟩ := fW_get (ad := ad) (E := E) hkv
  have hi2 := hi
  rw [he] at hi2
  rw [hev] at hiv
  refine va_astq (r := (RX0, TX0, 12)) hexec hb hK hI.1 hI.2.1 hI.2.2 q 2 qv 0 hi2 rfl hiv rfl hin hdg (fun H1 locs1 hP hD hS => ?_)
  rw [fW_set hI.2.1 hk hi] at hP hD
  exact kk _ H1 locs1 (va_up_self _ _ _) (fun q hq => va_up_ne _ _ hq) ⟨hP, hD, hS⟩
theorem f_alen (hexec : p.tables.exec = Jvm.exec) (hb : c.code = cc) {cI cJ cB : ClassId} (hK : va_K D vwCl (fTys cI cJ cB) s) (hI : fI D A H0 ad L E H locs) {k a : Nat} (ha : ad k = a) (hk : k ∈ L) {n : Nat} {f : Nat → Int32} (he : E k = .inl (cI, n, .inl f)) {v : Int32} (hv : Int32.ofNat n = v) (hdg : decode cc pc = .ok (.arraylength, 1))
    (kk : W p l e R s m args below meth c H locs cells slots Q (F0 m (pc + 1) ls (.int v :: rest))) : W p l e R s m args below meth c H locs cells slots Q (F0 m pc ls (.ref a :: rest)) := by
  subst ha
  obtain ⟨q, hi⟩ := fW_get (ad := ad) (E := E) hk
  rw [he] at hi
  exact va_alen (x := (n, .inl f)) hexec hb hK hI.1 q 0 hi (ty := .int) rfl hv hdg kk
theorem f_copy (hexec : p.tables.exec = Jvm.exec) (hb : c.code = cc) (hml : c.maxLocals = ls.size) {own : String} {index : Nat} (hown : s.vm.findClass own = some m.cls) (hlink : (Cond.methodLink own index arraycopyName).before args s = true) (hnat : (Cond.native arraycopyName).before args s = true) (hstat : (Cond.static arraycopyName).before args s = true) (hini : (Cond.initialized "java/lang/System").before args s = true)
    {cI cJ cB : ClassId} (hK : va_K D vwCl (fTys cI cJ cB) s) (hI : fI D A H0 ad L E H locs) {k0 k1 a0 a1 : Nat} (ha0 : ad k0 = a0) (ha1 : ad k1 = a1) (hk0 : k0 ∈ L) (hk1 : k1 ∈ L) {n0 n1 : Nat} {f g : Nat → Int32} (he0 : E k0 = .inl (cI, n0, .inl f)) (he1 : E k1 = .inl (cI, n1, .inl g)) {sp dp n : Int32} (h1 : ¬ sp < 0) (h2 : ¬ dp < 0) (h3 : ¬ n < 0) (h4 : sp.toNatClampNeg + n.toNatClampNeg ≤ n0) (h5 : dp.toNatClampNeg + n.toNatClampNeg ≤ n1)
    (hframes : 1 ≤ R.frames) (hlocals : (rest.map fun v => v.category).sum + (nativeFrameWords "java/lang/System" "arraycopy" 5 + 11) ≤ R.locals) (hdg : decode cc pc = .ok (.invokestatic index, 3))
    (kk : ∀ (E1 : Nat → va_E) (H1 : Heap) (locs1 : List Loc), E1 k1 = .inl (cI, n1, .inl (va_cpy f g sp.toNatClampNeg dp.toNatClampNeg n.toNatClampNeg)) → (∀ q, q ≠ k1 → E1 q = E q) → fI D A H0 ad L E1 H1 locs1 → W p l e R s m args below meth c H1 locs1 cells slots Q (F0 m (pc + 3) ls rest)) : W p l e R s m args below meth c H locs cells slots Q (F0 m pc ls (.int n :: .int dp :: .ref a1 :: .int sp :: .ref a0 :: rest)) := by
  subst ha0
  subst ha1
  obtain ⟨q0, hi0⟩ := fW_get (ad := ad) (E := E) hk0
  obtain ⟨q1, hi1⟩ := fW_get (ad := ad) (E := E) hk1
  have hi2 := hi1
  rw [he0] at hi0
  rw [he1] at hi2
  refine va_copyi (ty := .int) hexec hb hml hown hlink hnat hstat hini hK hI.1 hI.2.1 hI.2.2 q0 q1 0 0 hi0 hi2 rfl rfl rfl h1 h2 h3 h4 h5 (fun _ _ => rfl) hframes hlocals hdg (fun H1 locs1 hP hD hS => ?_)
  rw [fW_set hI.2.1 hk1 hi1] at hP hD
  exact kk _ H1 locs1 (va_up_self _ _ _) (fun q hq => va_up_ne _ _ hq) ⟨hP, hD, hS⟩
theorem f_new {c0 : Code} (hexec : p.tables.exec = Jvm.exec) (hb : c0.code = cc) {own C : String} {T : u_T} {N ci index : Nat} {Ts : List Cond} (hts : ∀ w ∈ Ts, w.before args s = true) (hin : ∀ w ∈ u_ws C T N, w ∈ Ts) (ty : Nat → FieldType) (hty : ∀ k, k < N → parseFieldDescriptor (T k).2.2.1 = some (ty k)) (hown : s.vm.findClass own = some m.cls) (hcl : (Cond.classLink own index C).before args s = true) (hinst : (Cond.instantiable C N).before args s = true) (hini : (Cond.initialized C).before args s = true)
    (hK : va_K D vwCl tys s) (hI : fI D A H0 ad L E H locs) (hA : ∀ q, H0.size ≤ q → A q) (hc : vwCl[ci]? = some (C, T, N)) {fs : List Value} (hfs : ∀ j, j < N → defaultValue (ty j) = vp_V fs j) {k : Nat} (hk : k ∉ L) (hcells : cells + 1 ≤ R.cells) (hslots : slots + N ≤ R.slots) (hdg : decode cc pc = .ok (.new index, 3))
    (kk : ∀ (a : Nat) (ad1 : Nat → Nat) (E1 : Nat → va_E) (H1 : Heap), ad1 k = a → (∀ q, q ≠ k → ad1 q = ad q) → E1 k = .inr (ci, fs) → (∀ q, q ≠ k → E1 q = E q) → fI D A H0 ad1 (L ++ [k]) E1 H1 locs →
      W p l e R s m args below meth c0 H1 locs (cells + 1) (slots + N) Q (F0 m (pc + 3) ls (.ref a :: rest))) : W p l e R s m args below meth c0 H locs cells slots Q (F0 m pc ls rest) := by
  refine va_new hexec hb hts hin ty hty hown hcl hinst hini hK hI.1 hI.2.1 hI.2.2 hA hc hfs hcells hslots hdg (fun q H1 hP hD hS => ?_)
  rw [fW_push hk] at hP hD
  exact kk q _ _ H1 (va_up_self _ _ _) (fun q hq => va_up_ne _ _ hq) (va_up_self _ _ _) (fun q hq => va_up_ne _ _ hq) ⟨hP, hD, hS⟩
theorem f_newi (hexec : p.tables.exec = Jvm.exec) (hb : c.code = cc) (harr : (Cond.arrayClass .int).before args s = true) {cI cJ cB : ClassId} (hK : va_K D vwCl (fTys cI cJ cB) s) (hI : fI D A H0 ad L E H locs) (hA : ∀ q, H0.size ≤ q → A q) {n : Int32} {N : Nat} (hn : ¬ n < 0) (hN : n.toNatClampNeg = N) (hbytes : N * 4 ≤ 536870912) {k : Nat} (hk : k ∉ L) (hcells : cells + 1 ≤ R.cells) (hslots : slots + N ≤ R.slots) (hdg : decode cc pc = .ok (.newarray .int, 2))
    (kk : ∀ (a : Nat) (ad1 : Nat → Nat) (E1 : Nat → va_E) (H1 : Heap), ad1 k = a → (∀ q, q ≠ k → ad1 q = ad q) → E1 k = .inl (cI, N, .inl (fun _ => 0)) → (∀ q, q ≠ k → E1 q = E q) → fI D A H0 ad1 (L ++ [k]) E1 H1 locs →
      W p l e R s m args below meth c H1 locs (cells + 1) (slots + N) Q (F0 m (pc + 2) ls (.ref a :: rest))) : W p l e R s m args below meth c H locs cells slots Q (F0 m pc ls (.int n :: rest)) := by
  refine va_newa (atype := .int) (ty := .int) (a0 := (N, .inl (fun _ => 0))) hexec hb harr rfl hK hI.1 hI.2.1 hI.2.2 hA (fun cA => rfl) hn hN hbytes hcells hslots hdg (fun q cA H1 hK1 hP hD hS => ?_)
  have e1 : cA = cI := by
    have h1 := (hK1.2 3 (cA, .int) rfl).2
    have h2 := (hK.2 0 (cI, .int) rfl).2
    exact Option.some.inj (h1.symm.trans h2)
  subst e1
  rw [fW_push hk] at hP hD
  exact kk q _ _ H1 (va_up_self _ _ _) (fun q hq => va_up_ne _ _ hq) (va_up_self _ _ _) (fun q hq => va_up_ne _ _ hq) ⟨hP, hD, hS⟩
theorem f_newl (hexec : p.tables.exec = Jvm.exec) (hb : c.code = cc) (harr : (Cond.arrayClass .long).before args s = true) {cI cJ cB : ClassId} (hK : va_K D vwCl (fTys cI cJ cB) s) (hI : fI D A H0 ad L E H locs) (hA : ∀ q, H0.size ≤ q → A q) {n : Int32} {N : Nat} (hn : ¬ n < 0) (hN : n.toNatClampNeg = N) (hbytes : N * 8 ≤ 536870912) {k : Nat} (hk : k ∉ L) (hcells : cells + 1 ≤ R.cells) (hslots : slots + N ≤ R.slots) (hdg : decode cc pc = .ok (.newarray .long, 2))
    (kk : ∀ (a : Nat) (ad1 : Nat → Nat) (E1 : Nat → va_E) (H1 : Heap), ad1 k = a → (∀ q, q ≠ k → ad1 q = ad q) → E1 k = .inl (cJ, N, .inr (.inl (fun _ => 0))) → (∀ q, q ≠ k → E1 q = E q) → fI D A H0 ad1 (L ++ [k]) E1 H1 locs →
      W p l e R s m args below meth c H1 locs (cells + 1) (slots + N) Q (F0 m (pc + 2) ls (.ref a :: rest))) : W p l e R s m args below meth c H locs cells slots Q (F0 m pc ls (.int n :: rest)) := by
  refine va_newa (atype := .long) (ty := .long) (a0 := (N, .inr (.inl (fun _ => 0)))) hexec hb harr rfl hK hI.1 hI.2.1 hI.2.2 hA (fun cA => rfl) hn hN hbytes hcells hslots hdg (fun q cA H1 hK1 hP hD hS => ?_)
  have e1 : cA = cJ := by
    have h1 := (hK1.2 3 (cA, .long) rfl).2
    have h2 := (hK.2 1 (cJ, .long) rfl).2
    exact Option.some.inj (h1.symm.trans h2)
  subst e1
  rw [fW_push hk] at hP hD
  exact kk q _ _ H1 (va_up_self _ _ _) (fun q hq => va_up_ne _ _ hq) (va_up_self _ _ _) (fun q hq => va_up_ne _ _ hq) ⟨hP, hD, hS⟩
/-- what a call needs of the caller's world -/
theorem f_calli {z mc ms : Nat} {a : Array Value} {S : Type} {post : Int32 → S → Prop} {B : S → State → Prop} (hr : va_Run p l e R s m args below meth c H locs cells slots mc ms (F0 m pc ls st0) rest (va_Qi post B (fA z) a) (fA z)) (hS : va_S (fA z) H0 H locs)
    (kk : ∀ (r : Int32) (u : S) (t : State) (H1 : Heap) (locs1 : List Loc), t.heap = H1 → post r u → B u t → va_S (fA z) H0 H1 locs1 → W p l e R s m args below meth c H1 locs1 (cells + mc) (slots + ms) Q (F0 m (pc + 3) ls (.int r :: rest))) : W p l e R s m args below meth c H locs cells slots Q (F0 m pc ls st0) :=
  va_calli hr hS (fun q _ h => h) (fun q h => h) (fun r u t H1 locs1 ht _ hp hb _ _ hS1 => kk r u t H1 locs1 ht hp hb hS1)
theorem f_calli1 {z mc ms : Nat} {a : Array Value} {post : Int32 → (Nat → va_E) → Prop} (hr : va_Run p l e R s m args below meth c H locs cells slots mc ms (F0 m pc ls st0) rest (va_Qi post (fB D z ad L) (fA z) a) (fA z)) (hI : fI D (fA z) H0 ad L E H locs)
    (kk : ∀ (r : Int32) (E1 : Nat → va_E) (H1 : Heap) (locs1 : List Loc), post r E1 → fI D (fA z) H0 ad L E1 H1 locs1 → W p l e R s m args below meth c H1 locs1 (cells + mc) (slots + ms) Q (F0 m (pc + 3) ls (.int r :: rest))) : W p l e R s m args below meth c H locs cells slots Q (F0 m pc ls st0) :=
  f_calli hr hI.2.2 (fun r u t H1 locs1 ht hp hb hS1 => kk r u H1 locs1 hp ⟨by rw [← ht]; exact hb.1, hb.2, hS1⟩)
theorem f_calll1 {z mc ms : Nat} {a : Array Value} {post : Int64 → (Nat → va_E) → Prop} (hr : va_Run p l e R s m args below meth c H locs cells slots mc ms (F0 m pc ls st0) rest (va_Ql post (fB D z ad L) (fA z) a) (fA z)) (hI : fI D (fA z) H0 ad L E H locs)
    (kk : ∀ (r : Int64) (E1 : Nat → va_E) (H1 : Heap) (locs1 : List Loc), post r E1 → fI D (fA z) H0 ad L E1 H1 locs1 → W p l e R s m args below meth c H1 locs1 (cells + mc) (slots + ms) Q (F0 m (pc + 3) ls (.long r :: rest))) : W p l e R s m args below meth c H locs cells slots Q (F0 m pc ls st0) :=
  va_calll hr hI.2.2 (fun q _ h => h) (fun q h => h) (fun r u t H1 locs1 ht _ hp hb _ _ hS1 => kk r u H1 locs1 hp ⟨by rw [← ht]; exact hb.1, hb.2, hS1⟩)
theorem f_calld1 {z mc ms : Nat} {a : Array Value} {post : UInt64 → (Nat → va_E) → Prop} (hr : va_Run p l e R s m args below meth c H locs cells slots mc ms (F0 m pc ls st0) rest (va_Qd post (fB D z ad L) (fA z) a) (fA z)) (hI : fI D (fA z) H0 ad L E H locs)
    (kk : ∀ (r : UInt64) (E1 : Nat → va_E) (H1 : Heap) (locs1 : List Loc), post r E1 → fI D (fA z) H0 ad L E1 H1 locs1 → W p l e R s m args below meth c H1 locs1 (cells + mc) (slots + ms) Q (F0 m (pc + 3) ls (.double r :: rest))) : W p l e R s m args below meth c H locs cells slots Q (F0 m pc ls st0) :=
  va_calld hr hI.2.2 (fun q _ h => h) (fun q h => h) (fun r u t H1 locs1 ht _ hp hb _ _ hS1 => kk r u H1 locs1 hp ⟨by rw [← ht]; exact hb.1, hb.2, hS1⟩)
theorem f_callv1 {z mc ms : Nat} {a : Array Value} {post : (Nat → va_E) → Prop} (hr : va_Run p l e R s m args below meth c H locs cells slots mc ms (F0 m pc ls st0) rest (va_Qv post (fB D z ad L) (fA z) a) (fA z)) (hI : fI D (fA z) H0 ad L E H locs)
    (kk : ∀ (E1 : Nat → va_E) (H1 : Heap) (locs1 : List Loc), post E1 → fI D (fA z) H0 ad L E1 H1 locs1 → W p l e R s m args below meth c H1 locs1 (cells + mc) (slots + ms) Q (F0 m (pc + 3) ls rest)) : W p l e R s m args below meth c H locs cells slots Q (F0 m pc ls st0) :=
  va_callv hr hI.2.2 (fun q _ h => h) (fun q h => h) (fun u t H1 locs1 ht _ hp hb _ _ hS1 => kk u H1 locs1 hp ⟨by rw [← ht]; exact hb.1, hb.2, hS1⟩)
/-- a constructor: it gives a new address map and a longer list -/
theorem f_callc {z mc ms : Nat} {a : Array Value} {L1 : List Nat} {post : (Nat → Nat) × (Nat → va_E) → Prop} (hr : va_Run p l e R s m args below meth c H locs cells slots mc ms (F0 m pc ls st0) rest (va_Qv post (fun u t => fB D z u.1 L1 u.2 t) (fA z) a) (fA z)) (hI : fI D (fA z) H0 ad L E H locs)
    (kk : ∀ (ad1 : Nat → Nat) (E1 : Nat → va_E) (H1 : Heap) (locs1 : List Loc), post (ad1, E1) → fI D (fA z) H0 ad1 L1 E1 H1 locs1 → W p l e R s m args below meth c H1 locs1 (cells + mc) (slots + ms) Q (F0 m (pc + 3) ls rest)) : W p l e R s m args below meth c H locs cells slots Q (F0 m pc ls st0) :=
  va_callv hr hI.2.2 (fun q _ h => h) (fun q h => h) (fun u t H1 locs1 ht _ hp hb _ _ hS1 => kk u.1 u.2 H1 locs1 hp ⟨by rw [← ht]; exact hb.1, hb.2, hS1⟩)
end FR
end
section
section FO
variable {l : Launch} {D : va_G} {cI cJ cB : ClassId} {t0 z : Nat} {tx : Nat → Nat} {ad : Nat → Nat} {L : List Nat} {E : Nat → va_E}
theorem f_ofW {y : MethodName} {ws ws' : List Cond} {rm : Room} {Qc : Array Value → State → Outcome → State → Prop} {mc ms : Nat} {cc : ByteArray} {maxL : Nat} {ret : Option FieldType} {av : List Value}
    (hy : plainName y.cls = true) (hw : ws = Cond.code y cc maxL ret :: ws') (hlen : (lg_sl av).length ≤ maxL)
    (body : ∀ (p : Program) (e : Env) (s : State) (m : MethodId) (args : Array Value) (below : List Frame) (meth : Method) (c : Code) (Q : State → Prop), p.tables.exec = Jvm.exec → c.code = cc → meth.sig.returnType = ret → c.maxLocals = maxL → (∀ w ∈ ws, w.before args s = true) → s.vm.findClass y.cls = some m.cls → meth.locks = false → meth.name = y.name → fG D cI cJ cB t0 z tx s → ∀ (H : Heap) (locs : List Loc), fI D (fA z) s.heap ad L E H locs → Q = MQ below Qc args s mc ms (fA z) → ∀ ls : Array Slot, lv_has ls maxL (lv_args 0 av) → W p l e rm s m args below meth c H locs 0 0 Q (F0 m 0 ls [])) : Met l y ws rm (va_Pc av (fPre D cI cJ cB t0 z tx ad L E)) Qc mc ms (fA z) := by
  refine Met.ofW (cc := cc) (maxL := maxL) (ret := ret) hy hw ?_
  intro p e s m args below meth c s₁ B hml hv
  obtain ⟨rfl, hG, hP, hD⟩ := hv
  rw [lg_entry_eq]
  exact body p e s m _ below meth c _ B.exec B.bytes B.returns hml (atoms_spec (ws := ws) B.pre) (findClass_of_methodNamed B.named) B.notSynchronized (name_of_methodNamed B.named B.method).1 hG _ _ ⟨hP, hD, va_S.rf⟩ rfl _ (lv_entry av (n := maxL) hlen)
/-- for a method of java.lang.Math: a method that no entry runs in its place -/
theorem f_ofWF {y : MethodName} {ws ws' : List Cond} {rm : Room} {Qc : Array Value → State → Outcome → State → Prop} {mc ms : Nat} {cc : ByteArray} {maxL : Nat} {ret : Option FieldType} {av : List Value}
    (hy : plainFor y = true) (hw : ws = Cond.code y cc maxL ret :: ws') (hlen : (lg_sl av).length ≤ maxL)
    (body : ∀ (p : Program) (e : Env) (s : State) (m : MethodId) (args : Array Value) (below : List Frame) (meth : Method) (c : Code) (Q : State → Prop), p.tables.exec = Jvm.exec → c.code = cc → meth.sig.returnType = ret → c.maxLocals = maxL → (∀ w ∈ ws, w.before args s = true) → s.vm.findClass y.cls = some m.cls → meth.locks = false → meth.name = y.name → fG D cI cJ cB t0 z tx s → ∀ (H : Heap) (locs : List Loc), fI D (fA z) s.heap ad L E H locs → Q = MQ below Qc args s mc ms (fA z) → ∀ ls : Array Slot, lv_has ls maxL (lv_args 0 av) → W p l e rm s m args below meth c H locs 0 0 Q (F0 m 0 ls [])) : Met l y ws rm (va_Pc av (fPre D cI cJ cB t0 z tx ad L E)) Qc mc ms (fA z) := by
  refine MetFree.of_bodySF (code := cc) (maxLocals := maxL) (ret := ret) hy ?_ ?_
  · intro args s m h hn
    obtain ⟨meth, c, h1, h2, h3, h4, h5, h6, -, -⟩ := Cond.code_spec hn (atoms_spec (ws := ws) h _ (by rw [hw]; exact List.mem_cons_self))
    exact ⟨meth, c, h1, h2, h3, h4, h5, h6⟩
  · intro p e s m args below meth c s₁ B hml hv _
    obtain ⟨rfl, hG, hP, hD⟩ := hv
    have hh0 : s₁.heap = s.heap := by rw [B.state]; rfl
    have K := body p e s m _ below meth c _ B.exec B.bytes B.returns hml (atoms_spec (ws := ws) B.pre) (findClass_of_methodNamed B.named) B.notSynchronized (name_of_methodNamed B.named B.method).1 hG _ _ ⟨hP, hD, va_S.rf⟩ rfl _ (lv_entry av (n := maxL) hlen)
    rw [← lg_entry_eq] at K
    obtain ⟨t, a1, o, b1, b2, b3⟩ := K s₁ hh0 (Stand.of_body B)
    exact ⟨t, o, a1, b1, b2, ⟨b3.1, b3.2⟩⟩
theorem f_ofX {y : MethodName} {ws ws' : List Cond} {rm : Room} {Qc : Array Value → State → Outcome → State → Prop} {XC : String → State → State → Prop} {mc ms : Nat} {cc : ByteArray} {maxL : Nat} {ret : Option FieldType} {av : List Value}
    (hy : plainName y.cls = true) (hw : ws = Cond.code y cc maxL ret :: ws') (hlen : (lg_sl av).length ≤ maxL)
    (body : ∀ (p : Program) (e : Env) (s : State) (m : MethodId) (args : Array Value) (below : List Frame) (meth : Method) (c : Code) (Q : State → Prop), p.tables.exec = Jvm.exec → c.code = cc → meth.sig.returnType = ret → c.maxLocals = maxL → (∀ x ∈ c.exceptionTable.toList, False) → (∀ w ∈ ws, w.before args s = true) → s.vm.findClass y.cls = some m.cls → meth.locks = false → fG D cI cJ cB t0 z tx s → ∀ (H : Heap) (locs : List Loc), fI D (fA z) s.heap ad L E H locs → Q = vx_MQ below Qc XC args s mc ms (fA z) → ∀ ls : Array Slot, lv_has ls maxL (lv_args 0 av) → W p l e rm s m args below meth c H locs 0 0 Q (F0 m 0 ls [])) : vx_Met l y ws rm (va_Pc av (fPre D cI cJ cB t0 z tx ad L E)) Qc XC mc ms (fA z) := by
  refine vx_ofW (cc := cc) (maxL := maxL) (ret := ret) hy hw ?_
  intro p e s m args below meth c s₁ B hml hT hv
  obtain ⟨rfl, hG, hP, hD⟩ := hv
  rw [lg_entry_eq]
  exact body p e s m _ below meth c _ B.exec B.bytes B.returns hml hT (atoms_spec (ws := ws) B.pre) (findClass_of_methodNamed B.named) B.notSynchronized hG _ _ ⟨hP, hD, va_S.rf⟩ rfl _ (lv_entry av (n := maxL) hlen)
end FO
theorem fG_A {D : va_G} {cI cJ cB : ClassId} {t0 z : Nat} {tx : Nat → Nat} {s : State} (h : fG D cI cJ cB t0 z tx s) : ∀ q : Nat, s.heap.size ≤ q → fA z q := fun _ hq => Nat.le_trans h.2.2.2.2.1 hq
theorem fB_of {D : va_G} {z : Nat} {H0 H : Heap} {locs : List Loc} {ad : Nat → Nat} {L : List Nat} {E : Nat → va_E} (hI : fI D (fA z) H0 ad L E H locs) : ∀ t : State, t.heap = H → fB D z ad L E t := fun t ht => ⟨by rw [ht]; exact hI.1, hI.2.1⟩
theorem fI_sub {D : va_G} {A : Nat → Prop} {H0 H : Heap} {locs : List Loc} {ad ad1 : Nat → Nat} {L L1 : List Nat} {E E1 : Nat → va_E} (hI : fI D A H0 ad1 (L ++ L1) E1 H locs) (h1 : ∀ q, q ∈ L → ad1 q = ad q) (h2 : ∀ q, q ∈ L → E1 q = E q) : fI D A H0 ad L E H locs := by
  have e : fW L ad E = fW L ad1 E1 := fW_congr (fun k hk => ⟨(h1 k hk).symm, (h2 k hk).symm⟩)
  have hk : ∀ k : Nat, k < (fW L ad1 E1).length → (fW (L ++ L1) ad1 E1)[k]? = (fW L ad1 E1)[k]? := fun k hk => by
    unfold fW at hk ⊢
    rw [List.map_append, List.getElem?_append_left hk]
  refine ⟨?_, ?_, hI.2.2⟩
  · rw [e]
    intro k q hq
    exact hI.1 k q (by rw [hk k (List.getElem?_eq_some_iff.mp hq).1]; exact hq)
  · rw [e]
    refine ⟨fun i j x y hi hj => hI.2.1.1 i j x y (by rw [hk i (List.getElem?_eq_some_iff.mp hi).1]; exact hi) (by rw [hk j (List.getElem?_eq_some_iff.mp hj).1]; exact hj), fun k q hq => hI.2.1.2 k q (by rw [hk k (List.getElem?_eq_some_iff.mp hq).1]; exact hq)⟩
section FE
variable {p : Program} {l : Launch} {e : Env} {R : Room} {s : State} {m : MethodId} {args : Array Value} {below : List Frame} {meth : Method} {c : Code} {H : Heap} {locs : List Loc} {cells slots mc ms : Nat} {Q : State → Prop}
variable {cc : ByteArray} {pc : Nat} {ls : Array Slot} {rest : List Value} {D : va_G} {z : Nat} {S : Type} {B : S → State → Prop}
theorem f_reti {post : Int32 → S → Prop} {v : Int32} (hQ : Q = MQ below (va_Qi post B (fA z)) args s mc ms (fA z)) (hexec : p.tables.exec = Jvm.exec) (hb : c.code = cc) (hr : meth.sig.returnType = some .int) (hlocks : meth.locks = false) (hS : va_S (fA z) s.heap H locs) (hc : cells ≤ mc) (hs : slots ≤ ms) (hdg : decode cc pc = .ok (.ireturn, 1)) (u : S) (hB : ∀ t : State, t.heap = H → B u t) (hp : post v u) : W p l e R s m args below meth c H locs cells slots Q (F0 m pc ls [.int v]) := by
  subst hQ
  refine W.widen hc hs ?_
  exact W.iret hexec hb hr (fun t ht hW => ⟨⟨v, u, rfl, hp, hB t ht⟩, hS.F ht⟩) hS.2.2 hdg hlocks
theorem f_retz {post : Int32 → S → Prop} {v : Int32} (hQ : Q = MQ below (va_Qi post B (fA z)) args s mc ms (fA z)) (hexec : p.tables.exec = Jvm.exec) (hb : c.code = cc) (hr : meth.sig.returnType = some .boolean) (hlocks : meth.locks = false) (hS : va_S (fA z) s.heap H locs) (hc : cells ≤ mc) (hs : slots ≤ ms) (hdg : decode cc pc = .ok (.ireturn, 1)) (hn : narrow .boolean (.int v) = .int v) (u : S) (hB : ∀ t : State, t.heap = H → B u t) (hp : post v u) : W p l e R s m args below meth c H locs cells slots Q (F0 m pc ls [.int v]) := by
  subst hQ
  refine W.widen hc hs ?_
  exact W.zret hexec hb hr hn (fun t ht hW => ⟨⟨v, u, rfl, hp, hB t ht⟩, hS.F ht⟩) hS.2.2 hdg hlocks
theorem f_retl {post : Int64 → S → Prop} {v : Int64} (hQ : Q = MQ below (va_Ql post B (fA z)) args s mc ms (fA z)) (hexec : p.tables.exec = Jvm.exec) (hb : c.code = cc) (hr : meth.sig.returnType = some .long) (hlocks : meth.locks = false) (hS : va_S (fA z) s.heap H locs) (hc : cells ≤ mc) (hs : slots ≤ ms) (hdg : decode cc pc = .ok (.lreturn, 1)) (u : S) (hB : ∀ t : State, t.heap = H → B u t) (hp : post v u) : W p l e R s m args below meth c H locs cells slots Q (F0 m pc ls [.long v]) := by
  subst hQ
  refine W.widen hc hs ?_
  exact W.lret hexec hb hr (fun t ht hW => ⟨⟨v, u, rfl, hp, hB t ht⟩, hS.F ht⟩) hS.2.2 hdg hlocks
theorem f_retd {post : UInt64 → S → Prop} {v : UInt64} (hQ : Q = MQ below (va_Qd post B (fA z)) args s mc ms (fA z)) (hexec : p.tables.exec = Jvm.exec) (hb : c.code = cc) (hr : meth.sig.returnType = some .double) (hlocks : meth.locks = false) (hS : va_S (fA z) s.heap H locs) (hc : cells ≤ mc) (hs : slots ≤ ms) (hdg : decode cc pc = .ok (.dreturn, 1)) (u : S) (hB : ∀ t : State, t.heap = H → B u t) (hp : post v u) : W p l e R s m args below meth c H locs cells slots Q (F0 m pc ls [.double v]) := by
  subst hQ
  refine W.widen hc hs ?_
  exact W.dret hexec hb hr (fun t ht hW => ⟨⟨v, u, rfl, hp, hB t ht⟩, hS.F ht⟩) hS.2.2 hdg hlocks
theorem f_retv {post : S → Prop} (hQ : Q = MQ below (va_Qv post B (fA z)) args s mc ms (fA z)) (hexec : p.tables.exec = Jvm.exec) (hb : c.code = cc) (hr : meth.sig.returnType = none) (hlocks : meth.locks = false) (hS : va_S (fA z) s.heap H locs) (hc : cells ≤ mc) (hs : slots ≤ ms) (hdg : decode cc pc = .ok (.return_, 1)) (u : S) (hB : ∀ t : State, t.heap = H → B u t) (hp : post u) : W p l e R s m args below meth c H locs cells slots Q (F0 m pc ls []) := by
  subst hQ
  refine W.widen hc hs ?_
  exact W.vret hexec hb hr (fun t ht hW => ⟨⟨u, rfl, hp, hB t ht⟩, hS.F ht⟩) hS.2.2 hdg hlocks
theorem f_ten {cI cJ cB : ClassId} {t0 : Nat} {tx : Nat → Nat} (hexec : p.tables.exec = Jvm.exec) (hb : c.code = cc) (hG : fG D cI cJ cB t0 z tx s) (hS : va_S (fA z) s.heap H locs) {i : Int32} (hin : vp_in i 7) (hdg : decode cc pc = .ok (.iaload, 1)) (kk : W p l e R s m args below meth c H locs cells slots Q (F0 m (pc + 1) ls (.int (fTen i.toNatClampNeg) :: rest))) : W p l e R s m args below meth c H locs cells slots Q (F0 m pc ls (.int i :: .ref t0 :: rest)) :=
  va_ti hexec hb hG.2.2.2.1 hS hin rfl hdg kk
end FE
theorem bl_t {c : Prop} [Decidable c] {r : Int32} (h : r = if c then 1 else 0) (n : ¬ r = 0) : c := by
  by_cases hc : c
  · exact hc
  · rw [if_neg hc] at h; exact absurd h n
theorem bl_f {c : Prop} [Decidable c] {r : Int32} (h : r = if c then 1 else 0) (n : r = 0) : ¬ c := by
  intro hc
  rw [if_pos hc] at h
  rw [h] at n
  exact absurd n (by decide)
theorem bl_n {c : Prop} [Decidable c] {r : Int32} (h : r = if c then 1 else 0) : narrow .boolean (.int r) = .int r := by
  by_cases hc : c
  · rw [if_pos hc] at h; rw [h]; rfl
  · rw [if_neg hc] at h; rw [h]; rfl
theorem bn_of {r : Int32} (h : r = 0 ∨ r = 1) : narrow .boolean (.int r) = .int r := by rcases h with h | h <;> rw [h] <;> rfl
theorem bf_of {r : Int32} (h : r = 0 ∨ r = 1) : fits .boolean (.int r) = true := by rcases h with h | h <;> rw [h] <;> rfl
/-- an index that is not negative and below n -/
theorem ix_of {x : Int32} {n : Nat} (h0 : 0 ≤ x.toInt) (h1 : x.toInt < n) : vp_in x n := vp_in_iff.mpr ⟨h0, h1⟩
theorem i_nle {x y : Int32} : ¬ x ≤ y ↔ y < x := by
  rw [Int32.le_iff_toInt_le, Int32.lt_iff_toInt_lt]; omega
theorem i_nlt {x y : Int32} : ¬ x < y ↔ y ≤ x := by
  rw [Int32.le_iff_toInt_le, Int32.lt_iff_toInt_lt]; omega
theorem fW_addr {A : Nat → Prop} {L : List Nat} {ad : Nat → Nat} {E E1 : Nat → va_E} (h : va_D A (fW L ad E)) : va_D A (fW L ad E1) := by
  have key : ∀ (i : Nat) (q : Nat × va_E), (fW L ad E1)[i]? = some q → ∃ q0 : Nat × va_E, (fW L ad E)[i]? = some q0 ∧ q0.1 = q.1 := by
    intro i q hq
    simp only [fW, List.getElem?_map] at hq ⊢
    cases hb : L[i]? with
    | none => rw [hb] at hq; cases hq
    | some b =>
      rw [hb] at hq
      cases hq
      exact ⟨_, rfl, rfl⟩
  refine ⟨fun i j x y hi hj hxy => ?_, fun k q hk => ?_⟩
  · obtain ⟨x0, h1, h2⟩ := key i x hi
    obtain ⟨y0, h3, h4⟩ := key j y hj
    exact h.1 i j x0 y0 h1 h3 (h2.trans (hxy.trans h4.symm))
  · obtain ⟨q0, h1, h2⟩ := key k q hk
    rw [← h2]
    exact h.2 k q0 h1
theorem arr_same {cI : ClassId} {n : Nat} {f g : Nat → Int32} (h : ∀ j, j < n → f j = g j) : vp_cell cI (n, .inl f) = vp_cell cI (n, .inl g) := by
  rw [vp_cell_i, vp_cell_i]
  unfold arrV
  congr 1
  apply congrArg
  funext j
  exact congrArg Value.int (h j.val j.isLt)
theorem fI_arr {D : va_G} {A : Nat → Prop} {H0 H : Heap} {locs : List Loc} {ad : Nat → Nat} {L : List Nat} {E : Nat → va_E} (hI : fI D A H0 ad L E H locs) {k n : Nat} {cI : ClassId} {f g : Nat → Int32} (he : E k = .inl (cI, n, .inl g)) (h : ∀ j, j < n → g j = f j) : ∃ E1 : Nat → va_E, E1 k = .inl (cI, n, .inl f) ∧ (∀ q, q ≠ k → E1 q = E q) ∧ fI D A H0 ad L E1 H locs := by
  refine ⟨va_up E k (.inl (cI, n, .inl f)), va_up_self _ _ _, fun q hq => va_up_ne _ _ hq, fun i q hi => ?_, fW_addr hI.2.1, hI.2.2⟩
  simp only [fW, List.getElem?_map] at hi
  cases hb : L[i]? with
  | none => rw [hb] at hi; cases hi
  | some b =>
    rw [hb] at hi
    cases hi
    have h1 := hI.1 i (ad b, E b) (fW_at hb)
    show va_at D vwCl (ad b, va_up E k (.inl (cI, n, .inl f)) b) H
    by_cases hbk : b = k
    · subst hbk
      rw [he] at h1
      rw [va_up_self]
      show H[ad b]? = some (vp_cell cI (n, .inl f))
      rw [← arr_same h]
      exact h1
    · rw [va_up_ne _ _ hbk]
      exact h1
section FC
variable {p : Program} {l : Launch} {e : Env} {R : Room} {s : State} {m : MethodId} {args : Array Value} {below : List Frame} {meth : Method} {c : Code} {H H0 : Heap} {locs : List Loc} {cells slots : Nat} {Q : State → Prop}
variable {cc : ByteArray} {pc : Nat} {ls : Array Slot} {rest st0 : List Value} {D : va_G} {A : Nat → Prop} {tys : List (ClassId × FieldType)} {ad : Nat → Nat} {L : List Nat} {E : Nat → va_E}
/-- a whole array copied onto another of its length -/
theorem f_copyA (hexec : p.tables.exec = Jvm.exec) (hb : c.code = cc) (hml : c.maxLocals = ls.size) {own : String} {index : Nat} (hown : s.vm.findClass own = some m.cls) (hlink : (Cond.methodLink own index arraycopyName).before args s = true) (hnat : (Cond.native arraycopyName).before args s = true) (hstat : (Cond.static arraycopyName).before args s = true) (hini : (Cond.initialized "java/lang/System").before args s = true)
    {cI cJ cB : ClassId} (hK : va_K D vwCl (fTys cI cJ cB) s) (hI : fI D A H0 ad L E H locs) {k0 k1 a0 a1 : Nat} (ha0 : ad k0 = a0) (ha1 : ad k1 = a1) (hk0 : k0 ∈ L) (hk1 : k1 ∈ L) {N : Nat} {f g : Nat → Int32} (he0 : E k0 = .inl (cI, N, .inl f)) (he1 : E k1 = .inl (cI, N, .inl g)) {n : Int32} (h3 : ¬ n < 0) (h4 : n.toNatClampNeg = N)
    (hframes : 1 ≤ R.frames) (hlocals : (rest.map fun v => v.category).sum + (nativeFrameWords "java/lang/System" "arraycopy" 5 + 11) ≤ R.locals) (hdg : decode cc pc = .ok (.invokestatic index, 3))
    (kk : ∀ (E1 : Nat → va_E) (H1 : Heap) (locs1 : List Loc), E1 k1 = .inl (cI, N, .inl f) → (∀ q, q ≠ k1 → E1 q = E q) → fI D A H0 ad L E1 H1 locs1 → W p l e R s m args below meth c H1 locs1 cells slots Q (F0 m (pc + 3) ls rest)) : W p l e R s m args below meth c H locs cells slots Q (F0 m pc ls (.int n :: .int 0 :: .ref a1 :: .int 0 :: .ref a0 :: rest)) := by
  have z0 : (0 : Int32).toNatClampNeg = 0 := by decide
  refine f_copy hexec hb hml hown hlink hnat hstat hini hK hI ha0 ha1 hk0 hk1 he0 he1 (by decide) (by decide) h3 (by rw [z0, h4]; omega) (by rw [z0, h4]; omega) hframes hlocals hdg (fun E1 H1 locs1 h5 h6 hI1 => ?_)
  rw [z0, h4] at h5
  obtain ⟨E2, g1, g2, g3⟩ := fI_arr (f := f) hI1 h5 (fun j hj => by simp [va_cpy, hj])
  exact kk E2 H1 locs1 g1 (fun q hq => (g2 q hq).trans (h6 q hq)) g3
end FC
end
section
/-! plain facts on numbers and arrays, to paste: each family by itself; over the kit's rows on nI and upd -/
/-! ===== order of ints, in all its forms, and through longs ===== -/
theorem fa_lt (a b : Int32) : a < b ↔ a.toInt < b.toInt := Int32.lt_iff_toInt_lt
theorem fa_le (a b : Int32) : a ≤ b ↔ a.toInt ≤ b.toInt := Int32.le_iff_toInt_le
theorem fa_eq (a b : Int32) : a = b ↔ a.toInt = b.toInt := Int32.toInt_inj.symm
theorem fa_lt64 (a b : Int64) : a < b ↔ a.toInt < b.toInt := Int64.lt_iff_toInt_lt
theorem fa_le64 (a b : Int64) : a ≤ b ↔ a.toInt ≤ b.toInt := Int64.le_iff_toInt_le
theorem fa_eq64 (a b : Int64) : a = b ↔ a.toInt = b.toInt := Int64.toInt_inj.symm
/-- a comparison of two ints taken as longs -/
theorem fa_wide_lt (a b : Int32) : a.toInt64 < b.toInt64 ↔ a < b := by rw [fa_lt64, fa_lt, Int32.toInt_toInt64, Int32.toInt_toInt64]
theorem fa_wide_le (a b : Int32) : a.toInt64 ≤ b.toInt64 ↔ a ≤ b := by rw [fa_le64, fa_le, Int32.toInt_toInt64, Int32.toInt_toInt64]
theorem fa_wide_eq (a b : Int32) : a.toInt64 = b.toInt64 ↔ a = b := by rw [fa_eq64, fa_eq, Int32.toInt_toInt64, Int32.toInt_toInt64]
/-- one strict comparison gives all the others -/
theorem fa_of_lt {a b : Int32} (h : a < b) : a ≤ b ∧ ¬ b ≤ a ∧ ¬ b < a ∧ a ≠ b ∧ b ≠ a := by
  rw [fa_lt] at h
  refine ⟨?_, ?_, ?_, ?_, ?_⟩
  · rw [fa_le]; omega
  · rw [fa_le]; omega
  · rw [fa_lt]; omega
  · intro e; rw [fa_eq] at e; omega
  · intro e; rw [fa_eq] at e; omega
theorem fa_of_nlt {a b : Int32} (h : ¬ a < b) : b ≤ a := by
  rw [fa_lt] at h
  rw [fa_le]
  omega
theorem fa_of_nle {a b : Int32} (h : ¬ a ≤ b) : b < a := by
  rw [fa_le] at h
  rw [fa_lt]
  omega
theorem fa_le_ne {a b : Int32} (h : a ≤ b) (h2 : a ≠ b) : a < b := by
  rw [fa_le] at h
  rw [fa_lt]
  have h3 : a.toInt ≠ b.toInt := fun e => h2 ((fa_eq a b).mpr e)
  omega
theorem fa_three (a b : Int32) : a < b ∨ a = b ∨ b < a := by
  rw [fa_lt, fa_lt, fa_eq]
  omega
theorem fa_trans {a b c : Int32} (h : a < b) (h2 : b ≤ c) : a < c := by
  rw [fa_lt] at *
  rw [fa_le] at h2
  omega
/-! ===== small literals as numbers ===== -/
theorem fa_lit (n : Nat) : (OfNat.ofNat n : Int32) = nI n := rfl
theorem fa_litL (n : Nat) : (OfNat.ofNat n : Int64) = lN n := rfl
/-! ===== bits of a number: 'or', masks, one bit ===== -/
theorem fa_and (a b : Nat) : nI a &&& nI b = nI (a &&& b) := by
  apply Int32.toBitVec_inj.1
  show BitVec.ofNat 32 a &&& BitVec.ofNat 32 b = BitVec.ofNat 32 (a &&& b)
  apply BitVec.eq_of_getLsbD_eq
  intro i hi
  simp [hi]
theorem fa_or (a b : Nat) : nI a ||| nI b = nI (a ||| b) := by
  apply Int32.toBitVec_inj.1
  show BitVec.ofNat 32 a ||| BitVec.ofNat 32 b = BitVec.ofNat 32 (a ||| b)
  apply BitVec.eq_of_getLsbD_eq
  intro i hi
  simp [hi]
/-- a remainder by a power of two, as a mask -/
theorem fa_mask (n k : Nat) : nI n &&& nI (2 ^ k - 1) = nI (n % 2 ^ k) := by rw [fa_and, Nat.and_two_pow_sub_one_eq_mod]
/-- 'or' of a high part and a low one that don't meet is their sum -/
theorem fa_or_sum {a k : Nat} (b : Nat) (h : a < 2 ^ k) : nI (2 ^ k * b) ||| nI a = nI (2 ^ k * b + a) := by rw [fa_or, Nat.two_pow_add_eq_or_of_lt h]
/-- one bit, by 'and' with a power of two -/
theorem fa_bit {n j : Nat} (hj : j < 31) : nI n &&& nI (2 ^ j) = 0 ↔ n.testBit j = false := by
  have h2 : (2 : Nat) ^ j < 2 ^ 31 := Nat.pow_lt_pow_right (by decide) hj
  have hle : n &&& 2 ^ j ≤ 2 ^ j := Nat.and_le_right
  have e : n &&& 2 ^ j = 0 ↔ n.testBit j = false := by
    constructor
    · intro h
      have h1 : (n &&& 2 ^ j).testBit j = false := by rw [h]; simp
      rw [Nat.testBit_and] at h1
      first | simpa using h1 | simpa [Nat.testBit_two_pow_self] using h1 | simpa [Nat.testBit_two_pow] using h1
    · intro h
      apply Nat.eq_of_testBit_eq
      intro i
      rw [Nat.testBit_and]
      by_cases hi : j = i
      · subst hi; simp [h]
      · first | (simp [Nat.testBit_two_pow, hi]; done) | (simp [Nat.testBit_two_pow_of_ne hi]; done)
  rw [fa_and]
  constructor
  · intro h
    apply e.mp
    rcases Nat.eq_zero_or_pos (n &&& 2 ^ j) with z | z
    · exact z
    · exact absurd h (nI_ne0 z (Nat.lt_of_le_of_lt hle h2))
  · intro h
    rw [e.mpr h]; exact nI_0
/-- a remainder by a power of two of a number that isn't negative, as Java divides -/
theorem fa_rem {a k : Nat} (ha : a < 2 ^ 31) (hk : k < 31) : nI a - nI a / nI (2 ^ k) * nI (2 ^ k) = nI (a % 2 ^ k) := pk_rem ha (Nat.two_pow_pos k) (Nat.pow_lt_pow_right (by decide) hk)
/-! ===== cuts to a byte, a short ===== -/
theorem fa_byte_xor (x y : Int32) : (x ^^^ y).toInt8 = x.toInt8 ^^^ y.toInt8 := by
  apply Int8.toBitVec_inj.1
  apply BitVec.eq_of_getLsbD_eq
  intro i hi
  first | (simp [hi]; done) | (simp [hi, BitVec.getLsbD_setWidth, BitVec.getLsbD_signExtend]; done)
theorem fa_short_xor (x y : Int32) : (x ^^^ y).toInt16 = x.toInt16 ^^^ y.toInt16 := by
  apply Int16.toBitVec_inj.1
  apply BitVec.eq_of_getLsbD_eq
  intro i hi
  first | (simp [hi]; done) | (simp [hi, BitVec.getLsbD_setWidth, BitVec.getLsbD_signExtend]; done)
/-- the cut to a byte sees the low byte alone -/
theorem fa_byte_low (x : Int32) : (x &&& 255).toInt8 = x.toInt8 := by
  apply Int8.toBitVec_inj.1
  apply BitVec.eq_of_getLsbD_eq
  intro i hi
  have h2 : (255 : Int32).toBitVec.getLsbD i = true := by
    have : ∀ j : Fin 8, (255 : Int32).toBitVec.getLsbD j.val = true := by decide +kernel
    exact this ⟨i, hi⟩
  have h4 : (x &&& 255).toBitVec.getLsbD i = x.toBitVec.getLsbD i := by
    show (x.toBitVec &&& (255 : Int32).toBitVec).getLsbD i = _
    rw [BitVec.getLsbD_and, h2, Bool.and_true]
  have h3 : i < 32 := by omega
  first
    | (show (((x &&& 255).toBitVec).signExtend 8).getLsbD i = (x.toBitVec.signExtend 8).getLsbD i; rw [BitVec.getLsbD_signExtend, BitVec.getLsbD_signExtend, if_pos h3, if_pos h3, h4])
    | (show (((x &&& 255).toBitVec).setWidth 8).getLsbD i = (x.toBitVec.setWidth 8).getLsbD i; rw [BitVec.getLsbD_setWidth, BitVec.getLsbD_setWidth, h4])
    | (simp [hi, h3, h4]; done)
theorem fa_short_low (x : Int32) : (x &&& 65535).toInt16 = x.toInt16 := by
  apply Int16.toBitVec_inj.1
  apply BitVec.eq_of_getLsbD_eq
  intro i hi
  have h2 : (65535 : Int32).toBitVec.getLsbD i = true := by
    have : ∀ j : Fin 16, (65535 : Int32).toBitVec.getLsbD j.val = true := by decide +kernel
    exact this ⟨i, hi⟩
  have h4 : (x &&& 65535).toBitVec.getLsbD i = x.toBitVec.getLsbD i := by
    show (x.toBitVec &&& (65535 : Int32).toBitVec).getLsbD i = _
    rw [BitVec.getLsbD_and, h2, Bool.and_true]
  have h3 : i < 32 := by omega
  first
    | (show (((x &&& 65535).toBitVec).signExtend 16).getLsbD i = (x.toBitVec.signExtend 16).getLsbD i; rw [BitVec.getLsbD_signExtend, BitVec.getLsbD_signExtend, if_pos h3, if_pos h3, h4])
    | (show (((x &&& 65535).toBitVec).setWidth 16).getLsbD i = (x.toBitVec.setWidth 16).getLsbD i; rw [BitVec.getLsbD_setWidth, BitVec.getLsbD_setWidth, h4])
    | (simp [hi, h3, h4]; done)
/-- a small number is its own byte, its own short -/
theorem fa_byte_small {n : Nat} (h : n < 128) : (nI n).toInt8.toInt32 = nI n := by
  have : ∀ j : Fin 128, (nI j.val).toInt8.toInt32 = nI j.val := by decide +kernel
  exact this ⟨n, h⟩
/-! ===== absolute difference ===== -/
theorem fa_absdiff {a b : Nat} (ha : a < 2 ^ 31) (hb : b < 2 ^ 31) : (if nI a < nI b then nI b - nI a else nI a - nI b) = nI (if a < b then b - a else a - b) := by
  by_cases h : a < b
  · rw [if_pos (nI_lt h hb), if_pos h]
    exact pk_sub (Nat.le_of_lt h)
  · rw [if_neg (nI_nlt (Nat.le_of_not_lt h) ha), if_neg h]
    exact pk_sub (Nat.le_of_not_lt h)
/-! ===== an array behind i stores, a conditional store, a row copied ===== -/
/-- f where k < i, what stood there else -/
def fa_fill {α : Type} (f g : Nat → α) (i : Nat) : Nat → α := fun k => if k < i then f k else g k
theorem fa_fill_0 {α : Type} (f g : Nat → α) : fa_fill f g 0 = g := funext fun k => if_neg (Nat.not_lt_zero k)
theorem fa_fill_in {α : Type} {f g : Nat → α} {i k : Nat} (h : k < i) : fa_fill f g i k = f k := if_pos h
theorem fa_fill_out {α : Type} {f g : Nat → α} {i k : Nat} (h : i ≤ k) : fa_fill f g i k = g k := if_neg (Nat.not_lt.mpr h)
theorem fa_fill_succ (f g : Nat → Int32) (i : Nat) : upd (fa_fill f g i) i (f i) = fa_fill f g (i + 1) := by
  funext k
  by_cases e : k = i
  · subst e
    rw [pk_us]
    exact (if_pos (Nat.lt_succ_self k)).symm
  · rw [pk_un e]
    by_cases h : k < i
    · rw [fa_fill_in h, fa_fill_in (Nat.lt_succ_of_lt h)]
    · rw [fa_fill_out (Nat.le_of_not_lt h), fa_fill_out (by omega)]
/-- a store that changes nothing -/
theorem fa_upd_same {f : Nat → Int32} {i : Nat} {x : Int32} (h : f i = x) : upd f i x = f := by
  funext k
  by_cases e : k = i
  · subst e
    rw [pk_us, h]
  · rw [pk_un e]
/-- a store under a condition, told as one -/
theorem fa_upd_if (c : Prop) [Decidable c] (f : Nat → Int32) (i : Nat) (x : Int32) : (if c then upd f i x else f) = upd f i (if c then x else f i) := by
  by_cases h : c
  · rw [if_pos h, if_pos h]
  · rw [if_neg h, if_neg h, fa_upd_same rfl]
/-- two stores at one place, at two -/
theorem fa_upd_twice (f : Nat → Int32) (i : Nat) (x y : Int32) : upd (upd f i x) i y = upd f i y := by
  funext k
  by_cases e : k = i
  · subst e
    rw [pk_us, pk_us]
  · rw [pk_un e, pk_un e, pk_un e]
theorem fa_upd_swap (f : Nat → Int32) {i j : Nat} (h : i ≠ j) (x y : Int32) : upd (upd f i x) j y = upd (upd f j y) i x := by
  funext k
  by_cases e : k = i
  · subst e
    rw [pk_un h, pk_us, pk_us]
  · by_cases e2 : k = j
    · subst e2
      rw [pk_us, pk_un e, pk_us]
    · rw [pk_un e2, pk_un e, pk_un e, pk_un e2]
/-! ===== the first index with a property; a count ===== -/
/-- the first k < n with p k, n if there is none -/
def fa_first (p : Nat → Bool) : Nat → Nat
  | 0 => 0
  | n + 1 => if fa_first p n < n then fa_first p n else if p n then n else n + 1
theorem fa_first_le (p : Nat → Bool) : ∀ n, fa_first p n ≤ n
  | 0 => Nat.le_refl 0
  | n + 1 => by
    have ih := fa_first_le p n
    unfold fa_first
    split
    · omega
    · split
      · omega
      · omega
theorem fa_first_no (p : Nat → Bool) : ∀ n k, k < fa_first p n → p k = false
  | 0, k, h => absurd h (Nat.not_lt_zero k)
  | n + 1, k, h => by
    have ih := fa_first_no p n
    have hl := fa_first_le p n
    unfold fa_first at h
    split at h
    · exact ih k h
    · rename_i h1
      split at h
      · exact ih k (by omega)
      · rename_i h2
        by_cases e : k = n
        · subst e
          exact Bool.eq_false_iff.mpr h2
        · exact ih k (by omega)
theorem fa_first_yes (p : Nat → Bool) : ∀ n, fa_first p n < n → p (fa_first p n) = true
  | 0, h => absurd h (Nat.not_lt_zero _)
  | n + 1, h => by
    have ih := fa_first_yes p n
    have hl := fa_first_le p n
    unfold fa_first at h ⊢
    split at h
    · rename_i h1
      rw [if_pos h1]
      exact ih h1
    · rename_i h1
      rw [if_neg h1]
      split at h
      · rename_i h2
        rw [if_pos h2]
        exact h2
      · omega
/-- how many k < n have p k -/
def fa_cnt (p : Nat → Bool) : Nat → Nat
  | 0 => 0
  | n + 1 => fa_cnt p n + if p n then 1 else 0
theorem fa_cnt_le (p : Nat → Bool) : ∀ n, fa_cnt p n ≤ n
  | 0 => Nat.le_refl 0
  | n + 1 => by
    have ih := fa_cnt_le p n
    unfold fa_cnt
    split
    · omega
    · omega
theorem fa_cnt_yes {p : Nat → Bool} {n : Nat} (h : p n = true) : fa_cnt p (n + 1) = fa_cnt p n + 1 := by rw [fa_cnt, if_pos h]
theorem fa_cnt_no {p : Nat → Bool} {n : Nat} (h : p n = false) : fa_cnt p (n + 1) = fa_cnt p n := by rw [fa_cnt, if_neg (by rw [h]; decide)]; rfl
theorem fa_cnt_cong {p q : Nat → Bool} : ∀ {n : Nat}, (∀ k, k < n → p k = q k) → fa_cnt p n = fa_cnt q n
  | 0, _ => rfl
  | n + 1, h => by rw [fa_cnt, fa_cnt, fa_cnt_cong (fun k hk => h k (Nat.lt_succ_of_lt hk)), h n (Nat.lt_succ_self n)]
/-! ===== an answer carried into a post; a branch on a boolean answer ===== -/
theorem fa_post {α : Type} {P : α → Prop} {x y : α} (h : x = y) (hp : P y) : P x := h ▸ hp
theorem fa_post2 {α β : Type} {P : α → β → Prop} {x y : α} {u v : β} (h : x = y) (h2 : u = v) (hp : P y v) : P x u := h ▸ h2 ▸ hp
theorem fa_bool {r : Int32} {b : Bool} (h : r = if b then 1 else 0) : (r = 0 ↔ b = false) ∧ (¬ r = 0 ↔ b = true) := by
  subst h
  cases b
  · exact ⟨⟨fun _ => rfl, fun _ => rfl⟩, ⟨fun h => absurd rfl h, fun h => absurd h (by decide)⟩⟩
  · exact ⟨⟨fun h => absurd h (by decide), fun h => absurd h (by decide)⟩, ⟨fun _ => rfl, fun _ => by decide⟩⟩
/-- a boolean's narrowing changes nothing -/
theorem fa_bool_and {r : Int32} (h : r = 0 ∨ r = 1) : r &&& 1 = r := by
  rcases h with rfl | rfl
  · decide
  · decide
theorem fa_bool_prop {c : Prop} [Decidable c] {r : Int32} (h : r = if c then 1 else 0) : (r = 0 ↔ ¬ c) ∧ (¬ r = 0 ↔ c) := by
  subst h
  by_cases hc : c
  · rw [if_pos hc]
    exact ⟨⟨fun h => absurd h (by decide), fun h => absurd hc h⟩, ⟨fun _ => hc, fun _ => by decide⟩⟩
  · rw [if_neg hc]
    exact ⟨⟨fun _ => hc, fun _ => rfl⟩, ⟨fun h => absurd rfl h, fun h => absurd h hc⟩⟩
end
section
/-! plain facts to paste, each family by itself; over the kit's nI, lN and upd -/
/-! ===== drawers: more things than places ===== -/
theorem fb_holes : ∀ (m n : Nat) (f : Nat → Nat), (∀ i, i < n → f i < m) → (∀ i j, i < j → j < n → f i ≠ f j) → n ≤ m := by
  intro m
  induction m with
  | zero =>
    intro n f h1 _
    rcases Nat.eq_zero_or_pos n with h | h
    · omega
    · exact absurd (h1 0 h) (Nat.not_lt_zero _)
  | succ m ih =>
    intro n f h1 h2
    by_cases hx : ∃ i, i < n ∧ f i = m
    · obtain ⟨a, ha, hfa⟩ := hx
      have hg := ih (n - 1) (fun i => if i < a then f i else f (i + 1)) (by
        intro i hi
        by_cases q : i < a
        · simp only [if_pos q]
          have b1 := h1 i (by omega)
          have b2 := h2 i a q ha
          omega
        · simp only [if_neg q]
          have b1 := h1 (i + 1) (by omega)
          have b2 := h2 a (i + 1) (by omega) (by omega)
          omega) (by
        intro i j hij hj
        by_cases q : i < a
        · by_cases r : j < a
          · simp only [if_pos q, if_pos r]
            exact h2 i j hij (by omega)
          · simp only [if_pos q, if_neg r]
            exact h2 i (j + 1) (by omega) (by omega)
        · have r : ¬ j < a := by omega
          simp only [if_neg q, if_neg r]
          exact h2 (i + 1) (j + 1) (by omega) (by omega))
      omega
    · have hg := ih n f (fun i hi => by
        have b1 := h1 i hi
        have b2 : f i ≠ m := fun e => hx ⟨i, hi, e⟩
        omega) h2
      omega
/-- two of them in one place -/
theorem fb_twice {m n : Nat} {f : Nat → Nat} (h : ∀ i, i < n → f i < m) (hm : m < n) : ∃ i j, i < j ∧ j < n ∧ f i = f j := by
  refine Classical.byContradiction fun hx => ?_
  have := fb_holes m n f h (fun i j hij hj e => hx ⟨i, j, hij, hj, e⟩)
  omega
/-- as many as places, none twice: each place is taken -/
theorem fb_onto {n : Nat} {f : Nat → Nat} (h : ∀ i, i < n → f i < n) (h2 : ∀ i j, i < j → j < n → f i ≠ f j) {y : Nat} (hy : y < n) : ∃ i, i < n ∧ f i = y := by
  refine Classical.byContradiction fun hx => ?_
  have hne : ∀ i, i < n → f i ≠ y := fun i hi e => hx ⟨i, hi, e⟩
  have := fb_holes (n - 1) n (fun i => if f i < y then f i else f i - 1) (by
    intro i hi
    have b1 := h i hi
    have b2 := hne i hi
    by_cases q : f i < y
    · simp only [if_pos q]; omega
    · simp only [if_neg q]; omega) (by
    intro i j hij hj
    have b1 := hne i (by omega)
    have b2 := hne j hj
    have b3 := h2 i j hij hj
    by_cases q : f i < y
    · by_cases r : f j < y
      · simp only [if_pos q, if_pos r]; exact b3
      · simp only [if_pos q, if_neg r]; omega
    · by_cases r : f j < y
      · simp only [if_neg q, if_pos r]; omega
      · simp only [if_neg q, if_neg r]; omega)
  omega
/-! ===== how many places have a property ===== -/
def fb_ct (p : Nat → Bool) : Nat → Nat
  | 0 => 0
  | n + 1 => fb_ct p n + (if p n then 1 else 0)
theorem fb_ct_succ (p : Nat → Bool) (n : Nat) : fb_ct p (n + 1) = fb_ct p n + (if p n then 1 else 0) := rfl
theorem fb_ct_le (p : Nat → Bool) : ∀ n, fb_ct p n ≤ n
  | 0 => Nat.le_refl _
  | n + 1 => by
    have h := fb_ct_le p n
    rw [fb_ct_succ]
    split <;> omega
theorem fb_ct_step (p : Nat → Bool) (m : Nat) : ∀ n, fb_ct p m ≤ fb_ct p (m + n)
  | 0 => Nat.le_refl _
  | n + 1 => by
    have h := fb_ct_step p m n
    show fb_ct p m ≤ fb_ct p (m + n + 1)
    rw [fb_ct_succ]
    omega
theorem fb_ct_mono (p : Nat → Bool) {m n : Nat} (h : m ≤ n) : fb_ct p m ≤ fb_ct p n := by
  have := fb_ct_step p m (n - m)
  rwa [Nat.add_sub_cancel' h] at this
theorem fb_ct_cong {p q : Nat → Bool} : ∀ {n : Nat}, (∀ k, k < n → p k = q k) → fb_ct p n = fb_ct q n
  | 0, _ => rfl
  | n + 1, h => by
    rw [fb_ct_succ, fb_ct_succ, fb_ct_cong (fun k hk => h k (by omega)), h n (by omega)]
/-- one place changed -/
theorem fb_ct_out (p : Nat → Bool) (b : Bool) {i n : Nat} (h : n ≤ i) : fb_ct (fun k => if k = i then b else p k) n = fb_ct p n :=
  fb_ct_cong fun k hk => if_neg (by omega)
theorem fb_ct_upd (p : Nat → Bool) (b : Bool) {i : Nat} : ∀ {n : Nat}, i < n → fb_ct (fun k => if k = i then b else p k) n + (if p i then 1 else 0) = fb_ct p n + (if b then 1 else 0)
  | 0, h => absurd h (Nat.not_lt_zero i)
  | n + 1, h => by
    rw [fb_ct_succ, fb_ct_succ]
    rcases Nat.lt_or_ge i n with q | q
    · have := fb_ct_upd p b q
      have e : (if n = i then b else p n) = p n := if_neg (by omega)
      rw [e]
      omega
    · have e : i = n := by omega
      subst e
      rw [fb_ct_out p b (Nat.le_refl _)]
      simp only [if_true]
      omega
theorem fb_ct_sub {p q : Nat → Bool} : ∀ {n : Nat}, (∀ k, k < n → p k = true → q k = true) → fb_ct p n ≤ fb_ct q n
  | 0, _ => Nat.le_refl _
  | n + 1, h => by
    have h1 := fb_ct_sub (n := n) (p := p) (q := q) (fun k hk => h k (by omega))
    have h2 := h n (by omega)
    rw [fb_ct_succ, fb_ct_succ]
    cases hp : p n <;> cases hq : q n <;> simp_all <;> omega
theorem fb_ct_or {p q : Nat → Bool} : ∀ {n : Nat}, (∀ k, k < n → ¬ (p k = true ∧ q k = true)) → fb_ct (fun k => p k || q k) n = fb_ct p n + fb_ct q n
  | 0, _ => rfl
  | n + 1, h => by
    have h1 := fb_ct_or (n := n) (p := p) (q := q) (fun k hk => h k (by omega))
    have h2 := h n (by omega)
    rw [fb_ct_succ, fb_ct_succ, fb_ct_succ, h1]
    cases hp : p n <;> cases hq : q n <;> simp_all <;> omega
theorem fb_ct_not (p : Nat → Bool) : ∀ n, fb_ct p n + fb_ct (fun k => !p k) n = n
  | 0 => rfl
  | n + 1 => by
    have h := fb_ct_not p n
    rw [fb_ct_succ, fb_ct_succ]
    cases p n <;> simp <;> omega
theorem fb_ct_split (p : Nat → Bool) (m : Nat) : ∀ n, fb_ct p (m + n) = fb_ct p m + fb_ct (fun k => p (m + k)) n
  | 0 => rfl
  | n + 1 => by
    have h := fb_ct_split p m n
    show fb_ct p (m + n + 1) = _
    rw [fb_ct_succ, fb_ct_succ, h, Nat.add_assoc]
theorem fb_ct_zero {p : Nat → Bool} : ∀ {n : Nat}, fb_ct p n = 0 ↔ ∀ k, k < n → p k = false
  | 0 => ⟨fun _ k hk => absurd hk (Nat.not_lt_zero k), fun _ => rfl⟩
  | n + 1 => by
    have h := fb_ct_zero (p := p) (n := n)
    rw [fb_ct_succ]
    constructor
    · intro e k hk
      have e1 : fb_ct p n = 0 := by omega
      rcases Nat.lt_or_ge k n with q | q
      · exact h.mp e1 k q
      · have ek : k = n := by omega
        subst ek
        cases hp : p k
        · rfl
        · simp [hp] at e
    · intro a
      rw [h.mpr (fun k hk => a k (by omega)), a n (by omega)]
      rfl
theorem fb_ct_pos {p : Nat → Bool} {n : Nat} : 0 < fb_ct p n ↔ ∃ k, k < n ∧ p k = true := by
  constructor
  · intro h
    refine Classical.byContradiction fun hx => ?_
    have := fb_ct_zero.mpr (fun k hk => by
      cases hp : p k
      · rfl
      · exact absurd ⟨k, hk, hp⟩ hx : ∀ k, k < n → p k = false)
    omega
  · rintro ⟨k, hk, hp⟩
    rcases Nat.eq_zero_or_pos (fb_ct p n) with e | e
    · have := fb_ct_zero.mp e k hk
      rw [this] at hp
      cases hp
    · exact e
theorem fb_ct_all {p : Nat → Bool} {n : Nat} : fb_ct p n = n ↔ ∀ k, k < n → p k = true := by
  have h := fb_ct_not p n
  constructor
  · intro e k hk
    have z : fb_ct (fun k => !p k) n = 0 := by omega
    have := fb_ct_zero.mp z k hk
    cases hp : p k
    · simp [hp] at this
    · rfl
  · intro a
    have z : fb_ct (fun k => !p k) n = 0 := fb_ct_zero.mpr (fun k hk => by simp [a k hk])
    omega
/-- the k-th place with the property -/
theorem fb_ct_kth {p : Nat → Bool} {k : Nat} : ∀ {n : Nat}, k < fb_ct p n → ∃ i, i < n ∧ p i = true ∧ fb_ct p i = k
  | 0, h => absurd h (Nat.not_lt_zero k)
  | n + 1, h => by
    rcases Nat.lt_or_ge k (fb_ct p n) with q | q
    · obtain ⟨i, h1, h2⟩ := fb_ct_kth q
      exact ⟨i, by omega, h2⟩
    · rw [fb_ct_succ] at h
      cases hp : p n
      · simp [hp] at h; omega
      · simp [hp] at h
        exact ⟨n, by omega, hp, by omega⟩
theorem fb_ct_kth_one {p : Nat → Bool} {i j : Nat} (hi : p i = true) (hj : p j = true) (e : fb_ct p i = fb_ct p j) : i = j := by
  have key : ∀ a b : Nat, a < b → p a = true → fb_ct p a < fb_ct p b := by
    intro a b hab ha
    have h := fb_ct_mono p (show a + 1 ≤ b from hab)
    rw [fb_ct_succ, ha] at h
    simp at h
    omega
  rcases Nat.lt_trichotomy i j with q | q | q
  · have := key i j q hi; omega
  · exact q
  · have := key j i q hj; omega
/-! ===== sums over a range: one place changed, parts, bounds ===== -/
def fb_sm (f : Nat → Nat) : Nat → Nat
  | 0 => 0
  | n + 1 => fb_sm f n + f n
theorem fb_sm_succ (f : Nat → Nat) (n : Nat) : fb_sm f (n + 1) = fb_sm f n + f n := rfl
theorem fb_sm_cong {f g : Nat → Nat} : ∀ {n : Nat}, (∀ k, k < n → f k = g k) → fb_sm f n = fb_sm g n
  | 0, _ => rfl
  | n + 1, h => by rw [fb_sm_succ, fb_sm_succ, fb_sm_cong (fun k hk => h k (by omega)), h n (by omega)]
theorem fb_sm_out (f : Nat → Nat) (v : Nat) {i n : Nat} (h : n ≤ i) : fb_sm (fun k => if k = i then v else f k) n = fb_sm f n :=
  fb_sm_cong fun k hk => if_neg (by omega)
theorem fb_sm_upd (f : Nat → Nat) (v : Nat) {i : Nat} : ∀ {n : Nat}, i < n → fb_sm (fun k => if k = i then v else f k) n + f i = fb_sm f n + v
  | 0, h => absurd h (Nat.not_lt_zero i)
  | n + 1, h => by
    rw [fb_sm_succ, fb_sm_succ]
    rcases Nat.lt_or_ge i n with q | q
    · have := fb_sm_upd f v q
      have e : (if n = i then v else f n) = f n := if_neg (by omega)
      rw [e]
      omega
    · have e : i = n := by omega
      subst e
      rw [fb_sm_out f v (Nat.le_refl _)]
      simp only [if_true]
      omega
theorem fb_sm_add (f g : Nat → Nat) : ∀ n, fb_sm (fun k => f k + g k) n = fb_sm f n + fb_sm g n
  | 0 => rfl
  | n + 1 => by
    have h := fb_sm_add f g n
    rw [fb_sm_succ, fb_sm_succ, fb_sm_succ, h]
    omega
theorem fb_sm_le {f g : Nat → Nat} : ∀ {n : Nat}, (∀ k, k < n → f k ≤ g k) → fb_sm f n ≤ fb_sm g n
  | 0, _ => Nat.le_refl _
  | n + 1, h => by
    have h1 := fb_sm_le (n := n) (f := f) (g := g) (fun k hk => h k (by omega))
    have h2 := h n (by omega)
    rw [fb_sm_succ, fb_sm_succ]
    omega
theorem fb_sm_const (c : Nat) : ∀ n, fb_sm (fun _ => c) n = n * c
  | 0 => by rw [Nat.zero_mul]; rfl
  | n + 1 => by rw [fb_sm_succ, fb_sm_const c n, Nat.succ_mul]
theorem fb_sm_bound {f : Nat → Nat} {c n : Nat} (h : ∀ k, k < n → f k ≤ c) : fb_sm f n ≤ n * c := by
  rw [← fb_sm_const c n]
  exact fb_sm_le h
theorem fb_sm_mono (f : Nat → Nat) (m : Nat) : ∀ n, fb_sm f m ≤ fb_sm f (m + n)
  | 0 => Nat.le_refl _
  | n + 1 => by
    have h := fb_sm_mono f m n
    show fb_sm f m ≤ fb_sm f (m + n + 1)
    rw [fb_sm_succ]
    omega
theorem fb_sm_part (f : Nat → Nat) {i n : Nat} (h : i < n) : fb_sm f i + f i ≤ fb_sm f n := by
  have := fb_sm_mono f (i + 1) (n - (i + 1))
  rw [fb_sm_succ, show i + 1 + (n - (i + 1)) = n by omega] at this
  exact this
theorem fb_sm_split (f : Nat → Nat) (m : Nat) : ∀ n, fb_sm f (m + n) = fb_sm f m + fb_sm (fun k => f (m + k)) n
  | 0 => rfl
  | n + 1 => by
    have h := fb_sm_split f m n
    show fb_sm f (m + n + 1) = _
    rw [fb_sm_succ, fb_sm_succ, h, Nat.add_assoc]
theorem fb_sm_zero {f : Nat → Nat} {n : Nat} (h : fb_sm f n = 0) : ∀ k, k < n → f k = 0 := fun k hk => by
  have := fb_sm_part f hk
  omega
/-- the same over whole numbers -/
def fb_si (f : Nat → Int) : Nat → Int
  | 0 => 0
  | n + 1 => fb_si f n + f n
theorem fb_si_succ (f : Nat → Int) (n : Nat) : fb_si f (n + 1) = fb_si f n + f n := rfl
theorem fb_si_cong {f g : Nat → Int} : ∀ {n : Nat}, (∀ k, k < n → f k = g k) → fb_si f n = fb_si g n
  | 0, _ => rfl
  | n + 1, h => by rw [fb_si_succ, fb_si_succ, fb_si_cong (fun k hk => h k (by omega)), h n (by omega)]
theorem fb_si_out (f : Nat → Int) (v : Int) {i n : Nat} (h : n ≤ i) : fb_si (fun k => if k = i then v else f k) n = fb_si f n :=
  fb_si_cong fun k hk => if_neg (by omega)
theorem fb_si_upd (f : Nat → Int) (v : Int) {i : Nat} : ∀ {n : Nat}, i < n → fb_si (fun k => if k = i then v else f k) n = fb_si f n - f i + v
  | 0, h => absurd h (Nat.not_lt_zero i)
  | n + 1, h => by
    rw [fb_si_succ, fb_si_succ]
    rcases Nat.lt_or_ge i n with q | q
    · have := fb_si_upd f v q
      have e : (if n = i then v else f n) = f n := if_neg (by omega)
      rw [e]
      omega
    · have e : i = n := by omega
      subst e
      rw [fb_si_out f v (Nat.le_refl _)]
      simp only [if_true]
      omega
theorem fb_si_add (f g : Nat → Int) : ∀ n, fb_si (fun k => f k + g k) n = fb_si f n + fb_si g n
  | 0 => rfl
  | n + 1 => by
    have h := fb_si_add f g n
    rw [fb_si_succ, fb_si_succ, fb_si_succ, h]
    omega
theorem fb_si_sub (f g : Nat → Int) : ∀ n, fb_si (fun k => f k - g k) n = fb_si f n - fb_si g n
  | 0 => rfl
  | n + 1 => by
    have h := fb_si_sub f g n
    rw [fb_si_succ, fb_si_succ, fb_si_succ, h]
    omega
theorem fb_si_mul (c : Int) (f : Nat → Int) : ∀ n, fb_si (fun k => c * f k) n = c * fb_si f n
  | 0 => (Int.mul_zero c).symm
  | n + 1 => by
    have h := fb_si_mul c f n
    rw [fb_si_succ, fb_si_succ, h, Int.mul_add]
theorem fb_si_split (f : Nat → Int) (m : Nat) : ∀ n, fb_si f (m + n) = fb_si f m + fb_si (fun k => f (m + k)) n
  | 0 => (Int.add_zero _).symm
  | n + 1 => by
    have h := fb_si_split f m n
    show fb_si f (m + n + 1) = _
    rw [fb_si_succ, fb_si_succ, h, Int.add_assoc]
theorem fb_si_nat (f : Nat → Nat) : ∀ n, fb_si (fun k => (f k : Int)) n = (fb_sm f n : Int)
  | 0 => rfl
  | n + 1 => by
    have h := fb_si_nat f n
    rw [fb_si_succ, fb_sm_succ, h]
    omega
theorem fb_si_bound {f : Nat → Int} {c : Int} (hc : 0 ≤ c) : ∀ {n : Nat}, (∀ k, k < n → -c ≤ f k ∧ f k ≤ c) → -(n * c) ≤ fb_si f n ∧ fb_si f n ≤ n * c
  | 0, _ => by simp [fb_si]
  | n + 1, h => by
    have h1 := fb_si_bound (n := n) (f := f) hc (fun k hk => h k (by omega))
    have h2 := h n (by omega)
    have e : ((n + 1 : Nat) : Int) * c = n * c + c := by rw [Int.natCast_add, Int.add_mul]; simp
    rw [fb_si_succ, e]
    omega
/-! ===== bits of a long that isn't negative ===== -/
theorem fb_andL (a b : Nat) : lN a &&& lN b = lN (a &&& b) := by
  apply Int64.toBitVec_inj.1
  show BitVec.ofNat 64 a &&& BitVec.ofNat 64 b = BitVec.ofNat 64 (a &&& b)
  apply BitVec.eq_of_getLsbD_eq
  intro i hi
  simp [hi]
theorem fb_orL (a b : Nat) : lN a ||| lN b = lN (a ||| b) := by
  apply Int64.toBitVec_inj.1
  show BitVec.ofNat 64 a ||| BitVec.ofNat 64 b = BitVec.ofNat 64 (a ||| b)
  apply BitVec.eq_of_getLsbD_eq
  intro i hi
  simp [hi]
theorem fb_xorL (a b : Nat) : lN a ^^^ lN b = lN (a ^^^ b) := by
  apply Int64.toBitVec_inj.1
  show BitVec.ofNat 64 a ^^^ BitVec.ofNat 64 b = BitVec.ofNat 64 (a ^^^ b)
  apply BitVec.eq_of_getLsbD_eq
  intro i hi
  simp [hi]
theorem fb_xorI (a b : Nat) : nI a ^^^ nI b = nI (a ^^^ b) := by
  apply Int32.toBitVec_inj.1
  show BitVec.ofNat 32 a ^^^ BitVec.ofNat 32 b = BitVec.ofNat 32 (a ^^^ b)
  apply BitVec.eq_of_getLsbD_eq
  intro i hi
  simp [hi]
theorem fb_maskL (n k : Nat) : lN n &&& lN (2 ^ k - 1) = lN (n % 2 ^ k) := by rw [fb_andL, Nat.and_two_pow_sub_one_eq_mod]
theorem fb_or_sumL {a k : Nat} (b : Nat) (h : a < 2 ^ k) : lN (2 ^ k * b) ||| lN a = lN (2 ^ k * b + a) := by rw [fb_orL, Nat.two_pow_add_eq_or_of_lt h]
theorem fb_lN_inj {a b : Nat} (ha : a < 2 ^ 63) (hb : b < 2 ^ 63) : lN a = lN b ↔ a = b := by
  constructor
  · intro h
    have h1 : (BitVec.ofNat 64 a).toNat = (BitVec.ofNat 64 b).toNat := congrArg (fun x : Int64 => x.toBitVec.toNat) h
    rw [BitVec.toNat_ofNat, BitVec.toNat_ofNat, Nat.mod_eq_of_lt (by omega), Nat.mod_eq_of_lt (by omega)] at h1
    exact h1
  · rintro rfl; rfl
theorem fb_bit_nat (n j : Nat) : n &&& 2 ^ j = 0 ↔ n.testBit j = false := by
  constructor
  · intro h
    have h1 : (n &&& 2 ^ j).testBit j = false := by rw [h]; simp
    rw [Nat.testBit_and] at h1
    simpa using h1
  · intro h
    apply Nat.eq_of_testBit_eq
    intro i
    rw [Nat.testBit_and]
    by_cases hi : j = i
    · subst hi; simp [h]
    · first | (simp [Nat.testBit_two_pow, hi]; done) | (simp [Nat.testBit_two_pow_of_ne hi]; done)
/-- one bit of a long -/
theorem fb_bitL {n j : Nat} (hj : j < 63) : lN n &&& lN (2 ^ j) = 0 ↔ n.testBit j = false := by
  have h2 : (2 : Nat) ^ j < 2 ^ 63 := Nat.pow_lt_pow_right (by decide) hj
  have hle : n &&& 2 ^ j ≤ 2 ^ j := Nat.and_le_right
  rw [fb_andL, ← fb_bit_nat, show (0 : Int64) = lN 0 from rfl]
  exact fb_lN_inj (by omega) (by decide)
/-- a bit set, a bit taken off -/
theorem fb_bit_set (n j i : Nat) : (n ||| 2 ^ j).testBit i = (n.testBit i || decide (i = j)) := by
  rw [Nat.testBit_or]
  by_cases h : j = i
  · subst h; simp
  · have h2 : ¬ i = j := fun e => h e.symm
    first | (simp [Nat.testBit_two_pow, h, h2]; done) | (simp [Nat.testBit_two_pow_of_ne h, h2]; done)
theorem fb_bit_flip (n j i : Nat) : (n ^^^ 2 ^ j).testBit i = (n.testBit i ^^ decide (i = j)) := by
  rw [Nat.testBit_xor]
  by_cases h : j = i
  · subst h; simp
  · have h2 : ¬ i = j := fun e => h e.symm
    first | (simp [Nat.testBit_two_pow, h, h2]; done) | (simp [Nat.testBit_two_pow_of_ne h, h2]; done)
/-! ===== a stretch of an array written over by a function ===== -/
def fb_put {α : Type} (f g : Nat → α) (a n : Nat) : Nat → α := fun k => if a ≤ k ∧ k < a + n then g (k - a) else f k
theorem fb_put_0 {α : Type} (f g : Nat → α) (a : Nat) : fb_put f g a 0 = f := funext fun k => if_neg (by omega)
theorem fb_put_in {α : Type} {f g : Nat → α} {a n k : Nat} (h1 : a ≤ k) (h2 : k < a + n) : fb_put f g a n k = g (k - a) := if_pos ⟨h1, h2⟩
theorem fb_put_out {α : Type} {f g : Nat → α} {a n k : Nat} (h : k < a ∨ a + n ≤ k) : fb_put f g a n k = f k := if_neg (by omega)
theorem fb_put_succ (f g : Nat → Int32) (a n : Nat) : upd (fb_put f g a n) (a + n) (g n) = fb_put f g a (n + 1) := by
  funext k
  by_cases h : k = a + n
  · subst h
    simp [upd, fb_put]
  · by_cases h1 : a ≤ k ∧ k < a + n
    · have h2 : a ≤ k ∧ k < a + (n + 1) := by omega
      simp only [upd, fb_put, if_neg h, if_pos h1, if_pos h2]
    · have h2 : ¬ (a ≤ k ∧ k < a + (n + 1)) := by omega
      simp only [upd, fb_put, if_neg h, if_neg h1, if_neg h2]
/-- .. from the far end down -/
theorem fb_put_down (f g : Nat → Int32) {a n m : Nat} (h : m < n) : upd (fb_put f (fun k => g (k + (m + 1))) (a + (m + 1)) (n - (m + 1))) (a + m) (g m) = fb_put f (fun k => g (k + m)) (a + m) (n - m) := by
  funext k
  by_cases h0 : k = a + m
  · subst h0
    simp only [upd, if_true]
    rw [fb_put_in (by omega) (by omega)]
    exact congrArg g (by omega)
  · simp only [upd, if_neg h0]
    by_cases h1 : a + (m + 1) ≤ k ∧ k < a + (m + 1) + (n - (m + 1))
    · rw [fb_put_in h1.1 h1.2, fb_put_in (by omega) (by omega)]
      exact congrArg g (by omega)
    · rw [fb_put_out (by omega), fb_put_out (by omega)]
theorem fb_put_cong {α : Type} {f f2 g g2 : Nat → α} {a n : Nat} (hf : ∀ k, (k < a ∨ a + n ≤ k) → f k = f2 k) (hg : ∀ k, k < n → g k = g2 k) : fb_put f g a n = fb_put f2 g2 a n := by
  funext k
  by_cases h : a ≤ k ∧ k < a + n
  · rw [fb_put_in h.1 h.2, fb_put_in h.1 h.2, hg _ (by omega)]
  · rw [fb_put_out (by omega), fb_put_out (by omega), hf _ (by omega)]
/-! ===== the least, the first, the best so far; that there is one alone ===== -/
theorem fb_first {p : Nat → Prop} [DecidablePred p] : ∀ {n : Nat}, (∃ i, i < n ∧ p i) → ∃ i, i < n ∧ p i ∧ ∀ j, j < i → ¬ p j
  | 0, h => by obtain ⟨i, hi, -⟩ := h; exact absurd hi (Nat.not_lt_zero i)
  | n + 1, h => by
    by_cases q : ∃ i, i < n ∧ p i
    · obtain ⟨i, h1, h2⟩ := fb_first q
      exact ⟨i, by omega, h2⟩
    · obtain ⟨i, h1, h2⟩ := h
      have e : i = n := by
        rcases Nat.lt_or_ge i n with r | r
        · exact absurd ⟨i, r, h2⟩ q
        · omega
      subst e
      exact ⟨i, by omega, h2, fun j hj hp => q ⟨j, hj, hp⟩⟩
theorem fb_first_one {p : Nat → Prop} {i j : Nat} (hi : p i) (hi2 : ∀ k, k < i → ¬ p k) (hj : p j) (hj2 : ∀ k, k < j → ¬ p k) : i = j := by
  rcases Nat.lt_trichotomy i j with q | q | q
  · exact absurd hi (hj2 i q)
  · exact q
  · exact absurd hj (hi2 j q)
theorem fb_last {p : Nat → Prop} [DecidablePred p] : ∀ {n : Nat}, (∃ i, i < n ∧ p i) → ∃ i, i < n ∧ p i ∧ ∀ j, i < j → j < n → ¬ p j
  | 0, h => by obtain ⟨i, hi, -⟩ := h; exact absurd hi (Nat.not_lt_zero i)
  | n + 1, h => by
    by_cases q : p n
    · exact ⟨n, by omega, q, fun j h1 h2 => by omega⟩
    · obtain ⟨i, h1, h2⟩ := h
      have hi : i < n := by
        rcases Nat.lt_or_ge i n with r | r
        · exact r
        · have e : i = n := by omega
          subst e
          exact absurd h2 q
      obtain ⟨i2, a1, a2, a3⟩ := fb_last (n := n) ⟨i, hi, h2⟩
      refine ⟨i2, by omega, a2, fun j b1 b2 => ?_⟩
      rcases Nat.lt_or_ge j n with r | r
      · exact a3 j b1 r
      · have e : j = n := by omega
        subst e
        exact q
/-- the first greatest -/
theorem fb_best (f : Nat → Int) : ∀ {n : Nat}, 0 < n → ∃ i, i < n ∧ (∀ j, j < n → f j ≤ f i) ∧ ∀ j, j < i → f j < f i
  | 0, h => absurd h (Nat.lt_irrefl 0)
  | 1, _ => ⟨0, by omega, fun j hj => by have e : j = 0 := by omega
                                         subst e; exact Int.le_refl _, fun j hj => absurd hj (Nat.not_lt_zero j)⟩
  | n + 2, _ => by
    obtain ⟨i, h1, h2, h3⟩ := fb_best f (n := n + 1) (by omega)
    by_cases q : f i < f (n + 1)
    · refine ⟨n + 1, by omega, fun j hj => ?_, fun j hj => ?_⟩
      · rcases Nat.lt_or_ge j (n + 1) with r | r
        · have := h2 j r; omega
        · have e : j = n + 1 := by omega
          subst e; exact Int.le_refl _
      · have := h2 j hj; omega
    · refine ⟨i, by omega, fun j hj => ?_, h3⟩
      rcases Nat.lt_or_ge j (n + 1) with r | r
      · exact h2 j r
      · have e : j = n + 1 := by omega
        subst e; omega
theorem fb_best_one {f : Nat → Int} {n i j : Nat} (hi : i < n) (hi2 : ∀ k, k < n → f k ≤ f i) (hi3 : ∀ k, k < i → f k < f i) (hj : j < n) (hj2 : ∀ k, k < n → f k ≤ f j) (hj3 : ∀ k, k < j → f k < f j) : i = j := by
  rcases Nat.lt_trichotomy i j with q | q | q
  · have a := hj3 i q
    have b := hi2 j hj
    omega
  · exact q
  · have a := hi3 j q
    have b := hj2 i hi
    omega
/-- the first least -/
theorem fb_low (f : Nat → Int) {n : Nat} (h : 0 < n) : ∃ i, i < n ∧ (∀ j, j < n → f i ≤ f j) ∧ ∀ j, j < i → f i < f j := by
  obtain ⟨i, h1, h2, h3⟩ := fb_best (fun k => -f k) h
  exact ⟨i, h1, fun j hj => by have := h2 j hj; omega, fun j hj => by have := h3 j hj; omega⟩
/-! ===== signed ints as whole numbers, within bounds ===== -/
theorem fb_rng (x : Int32) : -2147483648 ≤ x.toInt ∧ x.toInt < 2147483648 := by
  have h1 := Int32.le_toInt x
  have h2 := Int32.toInt_lt x
  omega
theorem fb_bmod {z : Int} (h1 : -2147483648 ≤ z) (h2 : z < 2147483648) : z.bmod (2 ^ 32) = z := by
  rw [Int.bmod_eq_of_le (by omega) (by omega)]
theorem fb_addI {x y : Int32} (h1 : -2147483648 ≤ x.toInt + y.toInt) (h2 : x.toInt + y.toInt < 2147483648) : (x + y).toInt = x.toInt + y.toInt := by
  rw [Int32.toInt_add, fb_bmod h1 h2]
theorem fb_subI {x y : Int32} (h1 : -2147483648 ≤ x.toInt - y.toInt) (h2 : x.toInt - y.toInt < 2147483648) : (x - y).toInt = x.toInt - y.toInt := by
  rw [Int32.toInt_sub, fb_bmod h1 h2]
theorem fb_mulI {x y : Int32} (h1 : -2147483648 ≤ x.toInt * y.toInt) (h2 : x.toInt * y.toInt < 2147483648) : (x * y).toInt = x.toInt * y.toInt := by
  rw [Int32.toInt_mul, fb_bmod h1 h2]
theorem fb_negI {x : Int32} (h : x.toInt ≠ -2147483648) : (-x).toInt = -x.toInt := by
  have := fb_rng x
  rw [Int32.toInt_neg, fb_bmod (by omega) (by omega)]
theorem fb_ofI {z : Int} (h1 : -2147483648 ≤ z) (h2 : z < 2147483648) : (Int32.ofInt z).toInt = z := by
  rw [Int32.toInt_ofInt, fb_bmod h1 h2]
theorem fb_asI (x : Int32) : Int32.ofInt x.toInt = x := Int32.ofInt_toInt x
theorem fb_rngL (x : Int64) : -9223372036854775808 ≤ x.toInt ∧ x.toInt < 9223372036854775808 := by
  have h1 := Int64.le_toInt x
  have h2 := Int64.toInt_lt x
  omega
theorem fb_bmodL {z : Int} (h1 : -9223372036854775808 ≤ z) (h2 : z < 9223372036854775808) : z.bmod (2 ^ 64) = z := by
  rw [Int.bmod_eq_of_le (by omega) (by omega)]
theorem fb_addL {x y : Int64} (h1 : -9223372036854775808 ≤ x.toInt + y.toInt) (h2 : x.toInt + y.toInt < 9223372036854775808) : (x + y).toInt = x.toInt + y.toInt := by
  rw [Int64.toInt_add, fb_bmodL h1 h2]
theorem fb_subL {x y : Int64} (h1 : -9223372036854775808 ≤ x.toInt - y.toInt) (h2 : x.toInt - y.toInt < 9223372036854775808) : (x - y).toInt = x.toInt - y.toInt := by
  rw [Int64.toInt_sub, fb_bmodL h1 h2]
theorem fb_mulL {x y : Int64} (h1 : -9223372036854775808 ≤ x.toInt * y.toInt) (h2 : x.toInt * y.toInt < 9223372036854775808) : (x * y).toInt = x.toInt * y.toInt := by
  rw [Int64.toInt_mul, fb_bmodL h1 h2]
/-! ===== cuts of what is narrow already ===== -/
theorem fb_byte {x : Int32} (h1 : -128 ≤ x.toInt) (h2 : x.toInt < 128) : x.toInt8.toInt32 = x := by
  apply Int32.toInt_inj.1
  rw [Int8.toInt_toInt32, Int32.toInt_toInt8, Int.bmod_eq_of_le (by omega) (by omega)]
theorem fb_short {x : Int32} (h1 : -32768 ≤ x.toInt) (h2 : x.toInt < 32768) : x.toInt16.toInt32 = x := by
  apply Int32.toInt_inj.1
  rw [Int16.toInt_toInt32, Int32.toInt_toInt16, Int.bmod_eq_of_le (by omega) (by omega)]
theorem fb_byte_rng (x : Int32) : -128 ≤ x.toInt8.toInt32.toInt ∧ x.toInt8.toInt32.toInt < 128 := by
  rw [Int8.toInt_toInt32]
  have h1 := Int8.le_toInt x.toInt8
  have h2 := Int8.toInt_lt x.toInt8
  omega
theorem fb_short_rng (x : Int32) : -32768 ≤ x.toInt16.toInt32.toInt ∧ x.toInt16.toInt32.toInt < 32768 := by
  rw [Int16.toInt_toInt32]
  have h1 := Int16.le_toInt x.toInt16
  have h2 := Int16.toInt_lt x.toInt16
  omega
theorem fb_byte_twice (x : Int32) : x.toInt8.toInt32.toInt8.toInt32 = x.toInt8.toInt32 := fb_byte (fb_byte_rng x).1 (fb_byte_rng x).2
theorem fb_short_twice (x : Int32) : x.toInt16.toInt32.toInt16.toInt32 = x.toInt16.toInt32 := fb_short (fb_short_rng x).1 (fb_short_rng x).2
theorem fb_char {n : Nat} (h : n < 65536) : (nI n).toUInt32.toUInt16.toUInt32.toInt32 = nI n := by
  apply Int32.toBitVec_inj.1
  apply BitVec.eq_of_toNat_eq
  have e1 : (nI n).toBitVec.toNat = n := by
    show (BitVec.ofNat 32 n).toNat = n
    rw [BitVec.toNat_ofNat, Nat.mod_eq_of_lt (by omega)]
  have e2 : ((nI n).toUInt32.toUInt16.toUInt32).toNat = n := by
    rw [UInt16.toNat_toUInt32, UInt32.toNat_toUInt16]
    show (nI n).toBitVec.toNat % 2 ^ 16 = n
    rw [e1, Nat.mod_eq_of_lt (by omega)]
  rw [e1]
  exact e2
end
section
/-! ===== the state in numbers: a boat's fields 1 .. 11 (length, strength, place, lane, heading, soaked, fouls, in, tickIn, spins, stops) and its row of strokes; the river's rows ===== -/
abbrev bE (ad : Nat → Nat) (k : Nat) (b : Nat → Int32) : va_E := .inr (0, [.ref (ad (k + 1)), .int (b 1), .int (b 2), .int (b 3), .int (b 4), .int (b 5), .int (b 6), .int (b 7), .int (b 8), .int (b 9), .int (b 10), .int (b 11)])
abbrev rE (ad : Nat → Nat) (n : Nat) : va_E := .inr (2, [.ref (ad 2), .ref (ad 3), .ref (ad 4), .int (nI n)])
abbrev p_lane (x : Int32) : Prop := 0 ≤ x ∧ x < 5
def p_stop (p g : Nat → Int32) (fr to ln : Int32) : Nat → Int32
  | 0 => -1
  | i + 1 => if (fr < p i ∧ p i ≤ to) ∧ ¬ g i = ln ∧ (p_stop p g fr to ln i = -1 ∨ p i < p_stop p g fr to ln i) then p i else p_stop p g fr to ln i
def p_min (x y : Int32) : Int32 := if y < x then y else x
def p_max (x y : Int32) : Int32 := if x < y then y else x
def p_abs (x : Int32) : Int32 := if 0 ≤ x then x else 0 - x
/-- soak(x) -/
def p_soak (b : Nat → Int32) (x : Int32) : Nat → Int32 := va_up b 6 (p_min (b 6 + x) 30)
def p_push (b : Nat → Int32) (k : Int32) : Int32 := if k = 3 then b 2 else if k = 0 then 0 else b 2 / 2
/-- the heading behind a stroke, before the spin -/
def p_head (h k : Int32) : Int32 := if k = 1 then h + 1 else if k = 2 then h - 1 else h
abbrev p_spun (h : Int32) : Prop := 4 < h ∨ h < -4
def p_force (b : Nat → Int32) (k : Int32) : Int32 := if p_spun (p_head (b 5) k) then 0 else p_max 0 (p_push b k - b 6 / 6)
def p_turn (b : Nat → Int32) (k : Int32) : Nat → Int32 := if p_spun (p_head (b 5) k) then va_up (va_up b 5 0) 10 (b 10 + 1) else va_up b 5 (p_head (b 5) k)
def p_want (b : Nat → Int32) : Int32 := if b 5 < 2 then (if -2 < b 5 then b 4 else b 4 - 1) else b 4 + 1
def p_drift (b : Nat → Int32) : Nat → Int32 := if p_lane (p_want b) then va_up b 4 (p_want b) else va_up b 7 (b 7 + 3)
def p_way (w : Nat → Int32) (b : Nat → Int32) (f : Int32) : Int32 := f * (4 - p_abs (b 5)) / 4 + w (b 4).toNatClampNeg
def p_stops (w p g : Nat → Int32) (n : Nat) (b : Nat → Int32) (f : Int32) : Int32 := p_stop p g (b 3) (b 3 + p_way w b f) (b 4) n
def p_halt (b : Nat → Int32) (x : Int32) : Nat → Int32 := va_up (p_soak (va_up (va_up b 3 x) 5 0) 5) 11 (b 11 + 1)
def p_adv (w p g : Nat → Int32) (n : Nat) (b : Nat → Int32) (f : Int32) : Nat → Int32 :=
  if p_lane (b 4) then (if p_stops w p g n b f = -1 then va_up b 3 (p_min (b 3 + p_way w b f) 200) else p_halt b (p_stops w p g n b f)) else b
def p_rem (x y : Int32) : Int32 := x - x / y * y
def p_stk (b f : Nat → Int32) (t : Int32) : Int32 := if b 1 < 1 ∨ 6 < b 1 then 0 else f (p_rem t (b 1)).toNatClampNeg
def p_wet (t : Int32) (b : Nat → Int32) : Nat → Int32 := if p_rem t 4 = 0 then p_soak b 1 else b
def p_home (t : Int32) (b : Nat → Int32) : Nat → Int32 := if b 3 = 200 then va_up (va_up b 8 1) 9 t else b
/-- a tick of a boat with the stroke k -/
def p_tickK (w p g : Nat → Int32) (n : Nat) (t k : Int32) (b : Nat → Int32) : Nat → Int32 := p_home t (p_wet t (p_adv w p g n (p_drift (p_turn b k)) (p_force b k)))
def p_tick (w p g : Nat → Int32) (n : Nat) (t : Int32) (f b : Nat → Int32) : Nat → Int32 := if b 8 = 0 then p_tickK w p g n t (p_stk b f t) b else b
def p_time (b : Nat → Int32) : Int32 := if b 8 = 0 then -1 else b 9 + 1 + b 7
theorem pos_of {x : Int32} (h : 1 ≤ x) : 0 < x := by
  rw [fa_le] at h
  rw [fa_lt]
  have e1 : (1 : Int32).toInt = 1 := by decide
  have e0 : (0 : Int32).toInt = 0 := by decide
  omega
theorem xor_pos {x y : Int32} (hx : 0 ≤ x) (hy : 0 < y) : 0 ≤ x ^^^ y := by
  obtain ⟨a, ha, rfl⟩ := nI_of (i_nlt.mpr hx)
  obtain ⟨b, hb, rfl⟩ := nI_of (fun h : y < 0 => by rw [fa_lt] at h hy; omega)
  rw [fb_xorI]
  exact nI_pos' (Nat.xor_lt_two_pow ha hb)
theorem p_rem_toInt (x y : Int32) : (p_rem x y).toInt = x.toInt.tmod y.toInt := rem_toInt x y
theorem rem_rng {t d : Int32} (ht : 0 ≤ t) (hd : 0 < d) : 0 ≤ (p_rem t d).toInt ∧ (p_rem t d).toInt < d.toInt := by
  rw [fa_le] at ht
  rw [fa_lt] at hd
  have e0 : (0 : Int32).toInt = 0 := by decide
  rw [p_rem_toInt]
  exact ⟨Int.tmod_nonneg _ (by omega), Int.tmod_lt_of_pos _ (by omega)⟩
theorem rem_ix {t d : Int32} (ht : 0 ≤ t) (h1 : 1 ≤ d) (h6 : d ≤ 6) : vp_in (p_rem t d) 6 := by
  obtain ⟨a, b⟩ := rem_rng ht (pos_of h1)
  rw [fa_le] at h6
  have e6 : (6 : Int32).toInt = 6 := by decide
  exact vp_in_iff.mpr ⟨a, by omega⟩
theorem lane_ix {x : Int32} (h : p_lane x) : vp_in x 5 := by
  obtain ⟨h1, h2⟩ := h
  rw [fa_le] at h1
  rw [fa_lt] at h2
  have e0 : (0 : Int32).toInt = 0 := by decide
  have e5 : (5 : Int32).toInt = 5 := by decide
  exact vp_in_iff.mpr ⟨by omega, by omega⟩
/-- 1 where b is ahead of o, else 0 -/
def p_ahead (b o : Nat → Int32) : Int32 := if b 8 = 0 then (if o 8 = 0 ∧ o 3 < b 3 then 1 else 0) else (if o 8 = 0 ∨ p_time b < p_time o then 1 else 0)
def p_fact (b : Nat → Int32) : Nat → Int32
  | 0 => b 3
  | 1 => b 4
  | 2 => b 5
  | 3 => b 6
  | 4 => b 7
  | 5 => if b 8 = 0 then 0 else 1
  | 6 => p_time b
  | 7 => b 10
  | _ => b 11
def p_shr (d : Int32) : Nat → Int32
  | 0 => d
  | k + 1 => p_shr d k / 10
/-- the row of strokes behind takePattern, from the place j on -/
def p_rowK (f : Nat → Int32) (len : Nat) (d : Int32) (j : Nat) : Nat → Int32 := fun i => if j ≤ i ∧ i < len then p_rem (p_shr d (len - 1 - i)) 10 else f i
def p_row (f : Nat → Int32) (len : Nat) (d : Int32) : Nat → Int32 := fun i => if i < len then p_rem (p_shr d (len - 1 - i)) 10 else f i
theorem p_rowK_0 (f : Nat → Int32) (len : Nat) (d : Int32) : p_rowK f len d 0 = p_row f len d := by
  funext i; simp [p_rowK, p_row]
theorem p_rowK_top (f : Nat → Int32) (len : Nat) (d : Int32) : p_rowK f len d len = f := by
  funext i; exact if_neg (by omega)
theorem p_rowK_step {f : Nat → Int32} {len : Nat} {d : Int32} {j : Nat} (h : j < len) : upd (p_rowK f len d (j + 1)) j (p_rem (p_shr d (len - (j + 1))) 10) = p_rowK f len d j := by
  funext i
  by_cases hi : i = j
  · subst hi
    simp [upd, p_rowK, h, show len - 1 - i = len - (i + 1) by omega]
  · simp only [upd, if_neg hi, p_rowK]
    by_cases h2 : j ≤ i ∧ i < len
    · rw [if_pos h2, if_pos ⟨by omega, h2.2⟩]
    · rw [if_neg h2, if_neg (by omega)]
def p_pre : Nat → Int32
  | 0 => -1
  | j + 1 => nI j
theorem p_pre_m (j : Nat) : nI j + (-1) = p_pre j := by
  cases j with
  | zero => decide
  | succ j => exact pk_m1 j
end
section
set_option maxHeartbeats 4000000 in
set_option maxRecDepth 100000 in
theorem m_X2_isLane (l : Launch) {D : va_G} {cI cJ cB : ClassId} {t0 z : Nat} {tx ad : Nat → Nat} {L : List Nat} {E : Nat → va_E} (x : Int32) : Met l yX2_isLane wsX2_isLane ({ frames := 0, cells := 0, slots := 0, locals := 0 } : Room) (va_Pc [.int x] (fPre D cI cJ cB t0 z tx ad L E)) (va_Qi (fun (r : Int32) (E1 : Nat → va_E) => r = (if p_lane x then 1 else 0) ∧ E1 = E) (fB D z ad L) (fA z)) 0 0 (fA z) := by
  refine f_ofW (cc := cX2_isLane) (maxL := 1) (ret := some .boolean) (by decide) rfl (Nat.le_of_ble_eq_true rfl) ?_
  intro pr e s m args below meth c Q hx hb hr hml hts hown hlocks hin hG H locs hI hQ ls hl
  have hl : lv_has ls 1 [(0, .int x)] := hl
  refine lv_iload_n hx hb dX2_isLane_0 rfl (lv_at hl 0 rfl) ?_
  refine lv_if_lt (tgt := 13) hx hb dX2_isLane_1 (by decide) (fun c_1 => ?_) (fun c_1 => ?_)
  · have n_1 := i_nle.mpr c_1
    refine lv_iconst (v := 0) hx hb dX2_isLane_13 (by decide) ?_
    exact f_retz hQ hx hb hr hlocks hI.2.2 (by omega) (by omega) dX2_isLane_14 rfl E (fB_of hI) (⟨by simp [c_1, n_1], rfl⟩)
  · have n_1 := c_1
    have c_1 := i_nlt.mp n_1
    refine lv_iload_n hx hb dX2_isLane_4 rfl (lv_at hl 0 rfl) ?_
    refine lv_iconst (v := 5) hx hb dX2_isLane_5 (by decide) ?_
    refine lv_icmp_ge (tgt := 13) hx hb dX2_isLane_6 (by decide) (fun c_6 => ?_) (fun c_6 => ?_)
    · have n_6 := i_nlt.mpr c_6
      refine lv_iconst (v := 0) hx hb dX2_isLane_13 (by decide) ?_
      exact f_retz hQ hx hb hr hlocks hI.2.2 (by omega) (by omega) dX2_isLane_14 rfl E (fB_of hI) (⟨by simp [c_1, n_1, c_6, n_6], rfl⟩)
    · have n_6 := c_6
      have c_6 := i_nle.mp n_6
      refine lv_iconst (v := 1) hx hb dX2_isLane_9 (by decide) ?_
      refine lv_goto (tgt := 14) hx hb dX2_isLane_10 (by decide) ?_
      exact f_retz hQ hx hb hr hlocks hI.2.2 (by omega) (by omega) dX2_isLane_14 rfl E (fB_of hI) (⟨by simp [c_1, n_1, c_6, n_6], rfl⟩)

set_option maxHeartbeats 4000000 in
set_option maxRecDepth 100000 in
theorem m_X2_firstStop (l : Launch) {D : va_G} {cI cJ cB : ClassId} {t0 z : Nat} {tx ad : Nat → Nat} {L : List Nat} {E : Nat → va_E} {w p g : Nat → Int32} {n : Nat} (hn : n ≤ 6) (hr1 : 1 ∈ L) (hr2 : 2 ∈ L) (hr3 : 3 ∈ L) (hr4 : 4 ∈ L) (hR : E 1 = rE ad n) (hRw : E 2 = .inl (cI, 5, .inl w)) (hRp : E 3 = .inl (cI, 6, .inl p)) (hRg : E 4 = .inl (cI, 6, .inl g)) (fr to ln : Int32) : Met l yX2_firstStop wsX2_firstStop ({ frames := 0, cells := 0, slots := 0, locals := 0 } : Room) (va_Pc [.ref (ad 1), .int fr, .int to, .int ln] (fPre D cI cJ cB t0 z tx ad L E)) (va_Qi (fun (r : Int32) (E1 : Nat → va_E) => r = p_stop p g fr to ln n ∧ E1 = E) (fB D z ad L) (fA z)) 0 0 (fA z) := by
  refine f_ofW (cc := cX2_firstStop) (maxL := 7) (ret := some .int) (by decide) rfl (Nat.le_of_ble_eq_true rfl) ?_
  intro pr e s m args below meth c Q hx hb hr hml hts hown hlocks hin hG H locs hI hQ ls hl
  have hl : lv_has ls 7 [(0, .ref (ad 1)), (1, .int fr), (2, .int to), (3, .int ln)] := hl
  have hR : E 1 = .inr (2, [.ref (ad 2), .ref (ad 3), .ref (ad 4), .int (nI n)]) := hR
  have hRw : E 2 = .inl (cI, 5, .inl w) := hRw
  have hRp : E 3 = .inl (cI, 6, .inl p) := hRp
  have hRg : E 4 = .inl (cI, 6, .inl g) := hRg
  refine lv_iconst (v := -1) hx hb dX2_firstStop_0 (by decide) ?_
  refine lv_istore (lv' := [(4, .int (-1)), (0, .ref (ad 1)), (1, .int fr), (2, .int to), (3, .int ln)]) hx hb dX2_firstStop_1 hl (by decide) rfl (fun ls hl => ?_)
  refine lv_iconst (v := 0) hx hb dX2_firstStop_3 (by decide) ?_
  refine lv_istore (lv' := [(5, .int 0), (4, .int (-1)), (0, .ref (ad 1)), (1, .int fr), (2, .int to), (3, .int ln)]) hx hb dX2_firstStop_4 hl (by decide) rfl (fun ls hl => ?_)
  have K : ∀ (k i : Nat), i ≤ n → n + 1 ≤ i + k → ∀ ls : Array Slot, lv_has ls 7 [(0, .ref (ad 1)), (1, .int fr), (2, .int to), (3, .int ln), (4, .int (p_stop p g fr to ln i)), (5, .int (nI i))] → W pr l e ({ frames := 0, cells := 0, slots := 0, locals := 0 } : Room) s m args below meth c H locs 0 0 Q (F0 m 6 ls []) := by
    intro k
    induction k with
    | zero => intro i h1 h2; exact absurd h2 (by omega)
    | succ k ih =>
      intro i hi1 hi2 ls hl
      refine lv_iload hx hb dX2_firstStop_6 (lv_at hl 5 rfl) ?_
      refine lv_aload_n hx hb dX2_firstStop_8 rfl (lv_at hl 0 rfl) ?_
      refine f_get (ci := 2) (v := .int (nI n)) (C := RX2) (T := TX2) (N := 4) hx hb hts (by decide +kernel) hown hG.1 hI rfl hr1 hR rfl 3 (by decide) (hts (.fieldLink RX2 19 "CoracleRace$River" "weirs" "I") (by decide +kernel)) rfl dX2_firstStop_9 ?_
      refine lv_icmp_ge (tgt := 93) hx hb dX2_firstStop_12 (by decide) (fun c_12 => ?_) (fun c_12 => ?_)
      · have n_12 := i_nlt.mpr c_12
        have hi : i = n := by have := (nI_leI (by omega) (by omega)).mp c_12; omega
        refine lv_iload hx hb dX2_firstStop_93 (lv_at hl 4 rfl) ?_
        exact f_reti hQ hx hb hr hlocks hI.2.2 (by omega) (by omega) dX2_firstStop_95 E (fB_of hI) (⟨by rw [hi], rfl⟩)
      · have n_12 := c_12
        have c_12 := i_nle.mp n_12
        have hi : i < n := (nI_ltI (by omega) (by omega)).mp c_12
        have hcl : (nI i).toNatClampNeg = i := nI_clamp (by omega)
        refine lv_aload_n hx hb dX2_firstStop_15 rfl (lv_at hl 0 rfl) ?_
        refine f_get (ci := 2) (v := .ref (ad 3)) (C := RX2) (T := TX2) (N := 4) hx hb hts (by decide +kernel) hown hG.1 hI rfl hr1 hR rfl 1 (by decide) (hts (.fieldLink RX2 13 "CoracleRace$River" "places" "[I") (by decide +kernel)) rfl dX2_firstStop_16 ?_
        refine lv_iload hx hb dX2_firstStop_19 (lv_at hl 5 rfl) ?_
        refine f_iald hx hb hG.1 hI rfl hr3 hRp (vp_in_nI (by omega) (by omega)) dX2_firstStop_21 ?_
        rw [hcl]
        refine lv_iload_n hx hb dX2_firstStop_22 rfl (lv_at hl 1 rfl) ?_
        refine lv_icmp_le (tgt := 41) hx hb dX2_firstStop_23 (by decide) (fun c_23 => ?_) (fun c_23 => ?_)
        · have n_23 := i_nlt.mpr c_23
          refine lv_iconst (v := 0) hx hb dX2_firstStop_41 (by decide) ?_
          refine lv_istore (lv' := [(6, .int 0), (0, .ref (ad 1)), (1, .int fr), (2, .int to), (3, .int ln), (4, .int (p_stop p g fr to ln i)), (5, .int (nI i))]) hx hb dX2_firstStop_42 hl (by decide) rfl (fun ls hl => ?_)
          refine lv_iload hx hb dX2_firstStop_44 (lv_at hl 0 rfl) ?_
          refine lv_if_eq (tgt := 87) hx hb dX2_firstStop_46 (by decide) (fun c_46 => ?_) (fun c_46 => ?_)
          · refine lv_iinc (v := (nI (i + 1))) (lv' := [(5, .int (nI (i + 1))), (6, .int 0), (0, .ref (ad 1)), (1, .int fr), (2, .int to), (3, .int ln), (4, .int (p_stop p g fr to ln i))]) hx hb dX2_firstStop_87 hl (k := 6) rfl (nI_1 i) (by decide) rfl (fun ls hl => ?_)
            refine lv_goto (tgt := 6) hx hb dX2_firstStop_90 (by decide) ?_
            refine ih (i + 1) (by omega) (by omega) ls ?_
            rw [show p_stop p g fr to ln (i + 1) = (p_stop p g fr to ln i) by rw [p_stop]; simp [c_12, n_12, c_23, n_23, c_46]]
            exact lv_sub hl [2, 3, 4, 5, 6, 0] rfl
          · exact absurd c_46 (by decide)
        · have n_23 := c_23
          have c_23 := i_nle.mp n_23
          refine lv_aload_n hx hb dX2_firstStop_26 rfl (lv_at hl 0 rfl) ?_
          refine f_get (ci := 2) (v := .ref (ad 3)) (C := RX2) (T := TX2) (N := 4) hx hb hts (by decide +kernel) hown hG.1 hI rfl hr1 hR rfl 1 (by decide) (hts (.fieldLink RX2 13 "CoracleRace$River" "places" "[I") (by decide +kernel)) rfl dX2_firstStop_27 ?_
          refine lv_iload hx hb dX2_firstStop_30 (lv_at hl 5 rfl) ?_
          refine f_iald hx hb hG.1 hI rfl hr3 hRp (vp_in_nI (by omega) (by omega)) dX2_firstStop_32 ?_
          rw [hcl]
          refine lv_iload_n hx hb dX2_firstStop_33 rfl (lv_at hl 2 rfl) ?_
          refine lv_icmp_gt (tgt := 41) hx hb dX2_firstStop_34 (by decide) (fun c_34 => ?_) (fun c_34 => ?_)
          · have n_34 := i_nle.mpr c_34
            refine lv_iconst (v := 0) hx hb dX2_firstStop_41 (by decide) ?_
            refine lv_istore (lv' := [(6, .int 0), (0, .ref (ad 1)), (1, .int fr), (2, .int to), (3, .int ln), (4, .int (p_stop p g fr to ln i)), (5, .int (nI i))]) hx hb dX2_firstStop_42 hl (by decide) rfl (fun ls hl => ?_)
            refine lv_iload hx hb dX2_firstStop_44 (lv_at hl 0 rfl) ?_
            refine lv_if_eq (tgt := 87) hx hb dX2_firstStop_46 (by decide) (fun c_46 => ?_) (fun c_46 => ?_)
            · refine lv_iinc (v := (nI (i + 1))) (lv' := [(5, .int (nI (i + 1))), (6, .int 0), (0, .ref (ad 1)), (1, .int fr), (2, .int to), (3, .int ln), (4, .int (p_stop p g fr to ln i))]) hx hb dX2_firstStop_87 hl (k := 6) rfl (nI_1 i) (by decide) rfl (fun ls hl => ?_)
              refine lv_goto (tgt := 6) hx hb dX2_firstStop_90 (by decide) ?_
              refine ih (i + 1) (by omega) (by omega) ls ?_
              rw [show p_stop p g fr to ln (i + 1) = (p_stop p g fr to ln i) by rw [p_stop]; simp [c_12, n_12, c_23, n_23, c_34, n_34, c_46]]
              exact lv_sub hl [2, 3, 4, 5, 6, 0] rfl
            · exact absurd c_46 (by decide)
          · have n_34 := c_34
            have c_34 := i_nlt.mp n_34
            refine lv_iconst (v := 1) hx hb dX2_firstStop_37 (by decide) ?_
            refine lv_goto (tgt := 42) hx hb dX2_firstStop_38 (by decide) ?_
            refine lv_istore (lv' := [(6, .int 1), (0, .ref (ad 1)), (1, .int fr), (2, .int to), (3, .int ln), (4, .int (p_stop p g fr to ln i)), (5, .int (nI i))]) hx hb dX2_firstStop_42 hl (by decide) rfl (fun ls hl => ?_)
            refine lv_iload hx hb dX2_firstStop_44 (lv_at hl 0 rfl) ?_
            refine lv_if_eq (tgt := 87) hx hb dX2_firstStop_46 (by decide) (fun c_46 => ?_) (fun c_46 => ?_)
            · exact absurd c_46 (by decide)
            · refine lv_aload_n hx hb dX2_firstStop_49 rfl (lv_at hl 1 rfl) ?_
              refine f_get (ci := 2) (v := .ref (ad 4)) (C := RX2) (T := TX2) (N := 4) hx hb hts (by decide +kernel) hown hG.1 hI rfl hr1 hR rfl 2 (by decide) (hts (.fieldLink RX2 16 "CoracleRace$River" "gaps" "[I") (by decide +kernel)) rfl dX2_firstStop_50 ?_
              refine lv_iload hx hb dX2_firstStop_53 (lv_at hl 6 rfl) ?_
              refine f_iald hx hb hG.1 hI rfl hr4 hRg (vp_in_nI (by omega) (by omega)) dX2_firstStop_55 ?_
              rw [hcl]
              refine lv_iload_n hx hb dX2_firstStop_56 rfl (lv_at hl 4 rfl) ?_
              refine lv_icmp_eq (tgt := 87) hx hb dX2_firstStop_57 (by decide) (fun c_57 => ?_) (fun c_57 => ?_)
              · refine lv_iinc (v := (nI (i + 1))) (lv' := [(5, .int (nI (i + 1))), (6, .int 1), (0, .ref (ad 1)), (1, .int fr), (2, .int to), (3, .int ln), (4, .int (p_stop p g fr to ln i))]) hx hb dX2_firstStop_87 hl (k := 6) rfl (nI_1 i) (by decide) rfl (fun ls hl => ?_)
                refine lv_goto (tgt := 6) hx hb dX2_firstStop_90 (by decide) ?_
                refine ih (i + 1) (by omega) (by omega) ls ?_
                rw [show p_stop p g fr to ln (i + 1) = (p_stop p g fr to ln i) by rw [p_stop]; simp [c_12, n_12, c_23, n_23, c_34, n_34, c_46, c_57]]
                exact lv_sub hl [2, 3, 4, 5, 6, 0] rfl
              · refine lv_iload hx hb dX2_firstStop_60 (lv_at hl 5 rfl) ?_
                refine lv_iconst (v := -1) hx hb dX2_firstStop_62 (by decide) ?_
                refine lv_icmp_eq (tgt := 78) hx hb dX2_firstStop_63 (by decide) (fun c_63 => ?_) (fun c_63 => ?_)
                · refine lv_aload_n hx hb dX2_firstStop_78 rfl (lv_at hl 1 rfl) ?_
                  refine f_get (ci := 2) (v := .ref (ad 3)) (C := RX2) (T := TX2) (N := 4) hx hb hts (by decide +kernel) hown hG.1 hI rfl hr1 hR rfl 1 (by decide) (hts (.fieldLink RX2 13 "CoracleRace$River" "places" "[I") (by decide +kernel)) rfl dX2_firstStop_79 ?_
                  refine lv_iload hx hb dX2_firstStop_82 (lv_at hl 6 rfl) ?_
                  refine f_iald hx hb hG.1 hI rfl hr3 hRp (vp_in_nI (by omega) (by omega)) dX2_firstStop_84 ?_
                  rw [hcl]
                  refine lv_istore (lv' := [(4, .int (p i)), (6, .int 1), (0, .ref (ad 1)), (1, .int fr), (2, .int to), (3, .int ln), (5, .int (nI i))]) hx hb dX2_firstStop_85 hl (by decide) rfl (fun ls hl => ?_)
                  refine lv_iinc (v := (nI (i + 1))) (lv' := [(5, .int (nI (i + 1))), (4, .int (p i)), (6, .int 1), (0, .ref (ad 1)), (1, .int fr), (2, .int to), (3, .int ln)]) hx hb dX2_firstStop_87 hl (k := 6) rfl (nI_1 i) (by decide) rfl (fun ls hl => ?_)
                  refine lv_goto (tgt := 6) hx hb dX2_firstStop_90 (by decide) ?_
                  refine ih (i + 1) (by omega) (by omega) ls ?_
                  rw [show p_stop p g fr to ln (i + 1) = (p i) by rw [p_stop]; simp [c_12, n_12, c_23, n_23, c_34, n_34, c_46, c_57, c_63]]
                  exact lv_sub hl [3, 4, 5, 6, 1, 0] rfl
                · refine lv_aload_n hx hb dX2_firstStop_66 rfl (lv_at hl 1 rfl) ?_
                  refine f_get (ci := 2) (v := .ref (ad 3)) (C := RX2) (T := TX2) (N := 4) hx hb hts (by decide +kernel) hown hG.1 hI rfl hr1 hR rfl 1 (by decide) (hts (.fieldLink RX2 13 "CoracleRace$River" "places" "[I") (by decide +kernel)) rfl dX2_firstStop_67 ?_
                  refine lv_iload hx hb dX2_firstStop_70 (lv_at hl 6 rfl) ?_
                  refine f_iald hx hb hG.1 hI rfl hr3 hRp (vp_in_nI (by omega) (by omega)) dX2_firstStop_72 ?_
                  rw [hcl]
                  refine lv_iload hx hb dX2_firstStop_73 (lv_at hl 5 rfl) ?_
                  refine lv_icmp_ge (tgt := 87) hx hb dX2_firstStop_75 (by decide) (fun c_75 => ?_) (fun c_75 => ?_)
                  · have n_75 := i_nlt.mpr c_75
                    refine lv_iinc (v := (nI (i + 1))) (lv' := [(5, .int (nI (i + 1))), (6, .int 1), (0, .ref (ad 1)), (1, .int fr), (2, .int to), (3, .int ln), (4, .int (p_stop p g fr to ln i))]) hx hb dX2_firstStop_87 hl (k := 6) rfl (nI_1 i) (by decide) rfl (fun ls hl => ?_)
                    refine lv_goto (tgt := 6) hx hb dX2_firstStop_90 (by decide) ?_
                    refine ih (i + 1) (by omega) (by omega) ls ?_
                    rw [show p_stop p g fr to ln (i + 1) = (p_stop p g fr to ln i) by rw [p_stop]; simp [c_12, n_12, c_23, n_23, c_34, n_34, c_46, c_57, c_63, c_75, n_75]]
                    exact lv_sub hl [2, 3, 4, 5, 6, 0] rfl
                  · have n_75 := c_75
                    have c_75 := i_nle.mp n_75
                    refine lv_aload_n hx hb dX2_firstStop_78 rfl (lv_at hl 1 rfl) ?_
                    refine f_get (ci := 2) (v := .ref (ad 3)) (C := RX2) (T := TX2) (N := 4) hx hb hts (by decide +kernel) hown hG.1 hI rfl hr1 hR rfl 1 (by decide) (hts (.fieldLink RX2 13 "CoracleRace$River" "places" "[I") (by decide +kernel)) rfl dX2_firstStop_79 ?_
                    refine lv_iload hx hb dX2_firstStop_82 (lv_at hl 6 rfl) ?_
                    refine f_iald hx hb hG.1 hI rfl hr3 hRp (vp_in_nI (by omega) (by omega)) dX2_firstStop_84 ?_
                    rw [hcl]
                    refine lv_istore (lv' := [(4, .int (p i)), (6, .int 1), (0, .ref (ad 1)), (1, .int fr), (2, .int to), (3, .int ln), (5, .int (nI i))]) hx hb dX2_firstStop_85 hl (by decide) rfl (fun ls hl => ?_)
                    refine lv_iinc (v := (nI (i + 1))) (lv' := [(5, .int (nI (i + 1))), (4, .int (p i)), (6, .int 1), (0, .ref (ad 1)), (1, .int fr), (2, .int to), (3, .int ln)]) hx hb dX2_firstStop_87 hl (k := 6) rfl (nI_1 i) (by decide) rfl (fun ls hl => ?_)
                    refine lv_goto (tgt := 6) hx hb dX2_firstStop_90 (by decide) ?_
                    refine ih (i + 1) (by omega) (by omega) ls ?_
                    rw [show p_stop p g fr to ln (i + 1) = (p i) by rw [p_stop]; simp [c_12, n_12, c_23, n_23, c_34, n_34, c_46, c_57, c_63, c_75, n_75]]
                    exact lv_sub hl [3, 4, 5, 6, 1, 0] rfl
  exact K (n + 1) 0 (Nat.zero_le _) (by omega) ls (lv_sub hl [2, 3, 4, 5, 1, 0] rfl)

set_option maxHeartbeats 4000000 in
set_option maxRecDepth 100000 in
theorem m_X0_soak (l : Launch) {D : va_G} {cI cJ cB : ClassId} {t0 z : Nat} {tx ad : Nat → Nat} {L : List Nat} {E : Nat → va_E} {kb a : Nat} (ha : ad kb = a) (hk : kb ∈ L) {b : Nat → Int32} (hC : E kb = bE ad kb b) (x : Int32) : Met l yX0_soak wsX0_soak ({ frames := 1, cells := 0, slots := 0, locals := 14 } : Room) (va_Pc [.ref a, .int x] (fPre D cI cJ cB t0 z tx ad L E)) (va_Qv (fun (E1 : Nat → va_E) => E1 kb = bE ad kb (p_soak b x) ∧ ∀ q, q ≠ kb → E1 q = E q) (fB D z ad L) (fA z)) 0 0 (fA z) := by
  refine f_ofW (cc := cX0_soak) (maxL := 2) (ret := none) (by decide) rfl (Nat.le_of_ble_eq_true rfl) ?_
  intro pr e s m args below meth c Q hx hb hr hml hts hown hlocks hin hG H locs hI hQ ls hl
  have hl : lv_has ls 2 [(0, .ref a), (1, .int x)] := hl
  have hfr : ∀ q : Nat, q ≠ kb → E q = E q := fun _ _ => rfl
  have hC : E kb = .inr (0, [.ref (ad (kb + 1)), .int (b 1), .int (b 2), .int (b 3), .int (b 4), .int (b 5), .int (b 6), .int (b 7), .int (b 8), .int (b 9), .int (b 10), .int (b 11)]) := hC
  refine lv_aload_n hx hb dX0_soak_0 rfl (lv_at hl 0 rfl) ?_
  refine lv_aload_n hx hb dX0_soak_1 rfl (lv_at hl 0 rfl) ?_
  refine f_get (ci := 0) (v := .int (b 6)) (C := RX0) (T := TX0) (N := 12) hx hb hts (by decide +kernel) hown hG.1 hI ha hk hC rfl 6 (by decide) (hts (.fieldLink RX0 29 "CoracleRace$Boat" "soaked" "I") (by decide +kernel)) rfl dX0_soak_2 ?_
  refine lv_iload_n hx hb dX0_soak_5 rfl (lv_at hl 1 rfl) ?_
  refine lv_iadd hx hb dX0_soak_6 ?_
  refine lv_bipush (v := 30) hx hb dX0_soak_7 (by decide) ?_
  refine va_mmin hx hb (hml.trans hl.1.symm) hown (hts (.methodLink RX0 108 Lib.Math.min.name) (by decide +kernel)) (hts (.static Lib.Math.min.name) (by decide +kernel)) (hts (.initialized "java/lang/Math") (by decide +kernel)) (hts (.code Lib.Math.min.name Lib.Math.min.code 2 (some .int)) (by decide +kernel)) (Nat.le_of_ble_eq_true rfl) (Nat.le_of_ble_eq_true rfl) (Nat.zero_le _) (Nat.zero_le _) dX0_soak_9 ?_
  refine f_put (ci := 0) (v := .int (if 30 < ((b 6) + x) then 30 else ((b 6) + x))) (C := RX0) (T := TX0) (N := 12) hx hb hts (by decide +kernel) tyX0 tyX0_ok nmX0 hown hG.1 hI ha hk hC rfl 6 (by decide) (hts (.fieldLink RX0 29 "CoracleRace$Boat" "soaked" "I") (by decide +kernel)) rfl rfl rfl (Nat.le_of_ble_eq_true rfl) dX0_soak_12 (fun E1 H locs hE2 hn3 hI => ?_)
  have hC : E1 kb = .inr (0, [.ref (ad (kb + 1)), .int (b 1), .int (b 2), .int (b 3), .int (b 4), .int (b 5), .int (if 30 < ((b 6) + x) then 30 else ((b 6) + x)), .int (b 7), .int (b 8), .int (b 9), .int (b 10), .int (b 11)]) := hE2
  have hfr : ∀ q : Nat, q ≠ kb → E1 q = E q := fun q hq => (hn3 q (by omega)).trans (hfr q hq)
  exact f_retv hQ hx hb hr hlocks hI.2.2 (by omega) (by omega) dX0_soak_15 E1 (fB_of hI) (⟨by rw [hC]; simp [p_soak, va_up, p_min], hfr⟩)

set_option maxHeartbeats 4000000 in
set_option maxRecDepth 100000 in
theorem m_X0_pushOf (l : Launch) {D : va_G} {cI cJ cB : ClassId} {t0 z : Nat} {tx ad : Nat → Nat} {L : List Nat} {E : Nat → va_E} {kb a : Nat} (ha : ad kb = a) (hk : kb ∈ L) {b : Nat → Int32} (hC : E kb = bE ad kb b) (k : Int32) : Met l yX0_pushOf wsX0_pushOf ({ frames := 0, cells := 0, slots := 0, locals := 0 } : Room) (va_Pc [.ref a, .int k] (fPre D cI cJ cB t0 z tx ad L E)) (va_Qi (fun (r : Int32) (E1 : Nat → va_E) => r = p_push b k ∧ E1 = E) (fB D z ad L) (fA z)) 0 0 (fA z) := by
  refine f_ofW (cc := cX0_pushOf) (maxL := 2) (ret := some .int) (by decide) rfl (Nat.le_of_ble_eq_true rfl) ?_
  intro pr e s m args below meth c Q hx hb hr hml hts hown hlocks hin hG H locs hI hQ ls hl
  have hl : lv_has ls 2 [(0, .ref a), (1, .int k)] := hl
  have hC : E kb = .inr (0, [.ref (ad (kb + 1)), .int (b 1), .int (b 2), .int (b 3), .int (b 4), .int (b 5), .int (b 6), .int (b 7), .int (b 8), .int (b 9), .int (b 10), .int (b 11)]) := hC
  refine lv_iload_n hx hb dX0_pushOf_0 rfl (lv_at hl 1 rfl) ?_
  refine lv_iconst (v := 3) hx hb dX0_pushOf_1 (by decide) ?_
  refine lv_icmp_ne (tgt := 10) hx hb dX0_pushOf_2 (by decide) (fun c_2 => ?_) (fun c_2 => ?_)
  · refine lv_iload_n hx hb dX0_pushOf_10 rfl (lv_at hl 1 rfl) ?_
    refine lv_if_ne (tgt := 18) hx hb dX0_pushOf_11 (by decide) (fun c_11 => ?_) (fun c_11 => ?_)
    · refine lv_aload_n hx hb dX0_pushOf_18 rfl (lv_at hl 0 rfl) ?_
      refine f_get (ci := 0) (v := .int (b 2)) (C := RX0) (T := TX0) (N := 12) hx hb hts (by decide +kernel) hown hG.1 hI ha hk hC rfl 2 (by decide) (hts (.fieldLink RX0 17 "CoracleRace$Boat" "strength" "I") (by decide +kernel)) rfl dX0_pushOf_19 ?_
      refine lv_iconst (v := 2) hx hb dX0_pushOf_22 (by decide) ?_
      refine lv_idiv hx hb dX0_pushOf_23 (by decide) ?_
      exact f_reti hQ hx hb hr hlocks hI.2.2 (by omega) (by omega) dX0_pushOf_24 E (fB_of hI) (⟨by simp [p_push, c_2, c_11], rfl⟩)
    · refine lv_iconst (v := 0) hx hb dX0_pushOf_14 (by decide) ?_
      refine lv_goto (tgt := 24) hx hb dX0_pushOf_15 (by decide) ?_
      exact f_reti hQ hx hb hr hlocks hI.2.2 (by omega) (by omega) dX0_pushOf_24 E (fB_of hI) (⟨by simp [p_push, c_2, c_11], rfl⟩)
  · refine lv_aload_n hx hb dX0_pushOf_5 rfl (lv_at hl 0 rfl) ?_
    refine f_get (ci := 0) (v := .int (b 2)) (C := RX0) (T := TX0) (N := 12) hx hb hts (by decide +kernel) hown hG.1 hI ha hk hC rfl 2 (by decide) (hts (.fieldLink RX0 17 "CoracleRace$Boat" "strength" "I") (by decide +kernel)) rfl dX0_pushOf_6 ?_
    exact f_reti hQ hx hb hr hlocks hI.2.2 (by omega) (by omega) dX0_pushOf_9 E (fB_of hI) (⟨by simp [p_push, c_2], rfl⟩)

set_option maxHeartbeats 4000000 in
set_option maxRecDepth 100000 in
theorem m_X0_forceOf (l : Launch) {D : va_G} {cI cJ cB : ClassId} {t0 z : Nat} {tx ad : Nat → Nat} {L : List Nat} {E : Nat → va_E} {kb a : Nat} (ha : ad kb = a) (hk : kb ∈ L) {b : Nat → Int32} (hC : E kb = bE ad kb b) (k : Int32) : Met l yX0_forceOf wsX0_forceOf ({ frames := 1, cells := 0, slots := 0, locals := 21 } : Room) (va_Pc [.ref a, .int k] (fPre D cI cJ cB t0 z tx ad L E)) (va_Qi (fun (r : Int32) (E1 : Nat → va_E) => r = p_force b k ∧ E1 kb = bE ad kb (p_turn b k) ∧ ∀ q, q ≠ kb → E1 q = E q) (fB D z ad L) (fA z)) 0 0 (fA z) := by
  refine f_ofW (cc := cX0_forceOf) (maxL := 2) (ret := some .int) (by decide) rfl (Nat.le_of_ble_eq_true rfl) ?_
  intro pr e s m args below meth c Q hx hb hr hml hts hown hlocks hin hG H locs hI hQ ls hl
  have hl : lv_has ls 2 [(0, .ref a), (1, .int k)] := hl
  have hfr : ∀ q : Nat, q ≠ kb → E q = E q := fun _ _ => rfl
  have hC : E kb = .inr (0, [.ref (ad (kb + 1)), .int (b 1), .int (b 2), .int (b 3), .int (b 4), .int (b 5), .int (b 6), .int (b 7), .int (b 8), .int (b 9), .int (b 10), .int (b 11)]) := hC
  refine lv_iload_n hx hb dX0_forceOf_0 rfl (lv_at hl 1 rfl) ?_
  refine lv_iconst (v := 1) hx hb dX0_forceOf_1 (by decide) ?_
  refine lv_icmp_ne (tgt := 18) hx hb dX0_forceOf_2 (by decide) (fun c_2 => ?_) (fun c_2 => ?_)
  · refine lv_iload_n hx hb dX0_forceOf_18 rfl (lv_at hl 1 rfl) ?_
    refine lv_iconst (v := 2) hx hb dX0_forceOf_19 (by decide) ?_
    refine lv_icmp_ne (tgt := 33) hx hb dX0_forceOf_20 (by decide) (fun c_20 => ?_) (fun c_20 => ?_)
    · refine lv_aload_n hx hb dX0_forceOf_33 rfl (lv_at hl 0 rfl) ?_
      refine f_get (ci := 0) (v := .int (b 5)) (C := RX0) (T := TX0) (N := 12) hx hb hts (by decide +kernel) hown hG.1 hI ha hk hC rfl 5 (by decide) (hts (.fieldLink RX0 26 "CoracleRace$Boat" "heading" "I") (by decide +kernel)) rfl dX0_forceOf_34 ?_
      refine lv_iconst (v := 4) hx hb dX0_forceOf_37 (by decide) ?_
      refine lv_icmp_gt (tgt := 50) hx hb dX0_forceOf_38 (by decide) (fun c_38 => ?_) (fun c_38 => ?_)
      · have n_38 := i_nle.mpr c_38
        refine lv_aload_n hx hb dX0_forceOf_50 rfl (lv_at hl 0 rfl) ?_
        refine lv_iconst (v := 0) hx hb dX0_forceOf_51 (by decide) ?_
        refine f_put (ci := 0) (v := .int 0) (C := RX0) (T := TX0) (N := 12) hx hb hts (by decide +kernel) tyX0 tyX0_ok nmX0 hown hG.1 hI ha hk hC rfl 5 (by decide) (hts (.fieldLink RX0 26 "CoracleRace$Boat" "heading" "I") (by decide +kernel)) rfl rfl rfl (Nat.le_of_ble_eq_true rfl) dX0_forceOf_52 (fun E1 H locs hE2 hn3 hI => ?_)
        have hC : E1 kb = .inr (0, [.ref (ad (kb + 1)), .int (b 1), .int (b 2), .int (b 3), .int (b 4), .int 0, .int (b 6), .int (b 7), .int (b 8), .int (b 9), .int (b 10), .int (b 11)]) := hE2
        have hfr : ∀ q : Nat, q ≠ kb → E1 q = E q := fun q hq => (hn3 q (by omega)).trans (hfr q hq)
        refine lv_aload_n hx hb dX0_forceOf_55 rfl (lv_at hl 0 rfl) ?_
        refine lv_dup hx hb dX0_forceOf_56 rfl ?_
        refine f_get (ci := 0) (v := .int (b 10)) (C := RX0) (T := TX0) (N := 12) hx hb hts (by decide +kernel) hown hG.1 hI ha hk hC rfl 10 (by decide) (hts (.fieldLink RX0 42 "CoracleRace$Boat" "spins" "I") (by decide +kernel)) rfl dX0_forceOf_57 ?_
        refine lv_iconst (v := 1) hx hb dX0_forceOf_60 (by decide) ?_
        refine lv_iadd hx hb dX0_forceOf_61 ?_
        refine f_put (ci := 0) (v := .int ((b 10) + 1)) (C := RX0) (T := TX0) (N := 12) hx hb hts (by decide +kernel) tyX0 tyX0_ok nmX0 hown hG.1 hI ha hk hC rfl 10 (by decide) (hts (.fieldLink RX0 42 "CoracleRace$Boat" "spins" "I") (by decide +kernel)) rfl rfl rfl (Nat.le_of_ble_eq_true rfl) dX0_forceOf_62 (fun E4 H locs hE5 hn6 hI => ?_)
        have hC : E4 kb = .inr (0, [.ref (ad (kb + 1)), .int (b 1), .int (b 2), .int (b 3), .int (b 4), .int 0, .int (b 6), .int (b 7), .int (b 8), .int (b 9), .int ((b 10) + 1), .int (b 11)]) := hE5
        have hfr : ∀ q : Nat, q ≠ kb → E4 q = E q := fun q hq => (hn6 q (by omega)).trans (hfr q hq)
        refine lv_iconst (v := 0) hx hb dX0_forceOf_65 (by decide) ?_
        exact f_reti hQ hx hb hr hlocks hI.2.2 (by omega) (by omega) dX0_forceOf_66 E4 (fB_of hI) (⟨by simp [p_force, p_spun, p_head, p_max, p_push, va_up, c_2, c_20, c_38, n_38] <;> rfl, by rw [hC]; simp [p_turn, p_spun, p_head, va_up, c_2, c_20, c_38, n_38], hfr⟩)
      · have n_38 := c_38
        have c_38 := i_nlt.mp n_38
        refine lv_aload_n hx hb dX0_forceOf_41 rfl (lv_at hl 0 rfl) ?_
        refine f_get (ci := 0) (v := .int (b 5)) (C := RX0) (T := TX0) (N := 12) hx hb hts (by decide +kernel) hown hG.1 hI ha hk hC rfl 5 (by decide) (hts (.fieldLink RX0 26 "CoracleRace$Boat" "heading" "I") (by decide +kernel)) rfl dX0_forceOf_42 ?_
        refine lv_bipush (v := -4) hx hb dX0_forceOf_45 (by decide) ?_
        refine lv_icmp_ge (tgt := 67) hx hb dX0_forceOf_47 (by decide) (fun c_47 => ?_) (fun c_47 => ?_)
        · have n_47 := i_nlt.mpr c_47
          refine lv_iconst (v := 0) hx hb dX0_forceOf_67 (by decide) ?_
          refine lv_aload_n hx hb dX0_forceOf_68 rfl (lv_at hl 0 rfl) ?_
          refine lv_iload_n hx hb dX0_forceOf_69 rfl (lv_at hl 1 rfl) ?_
          refine f_calli1 (va_runV (As := [.int k]) (rest := [.int 0]) ⟨hx, hb, hml, hown, hts⟩ (m_X0_pushOf l ha hk (b := va_up b 5 (b 5)) hC k) (cwV 1 hts gX0_forceOf_X0_pushOf rfl rfl rfl (by decide +kernel) ⟨Nat.le_of_ble_eq_true rfl, Nat.le_of_ble_eq_true rfl⟩) (fPre_ofV hG hI ha hk hC rfl rfl) rfl rfl hl.1 rfl (lv_room (Nat.le_of_ble_eq_true rfl)) dX0_forceOf_70 ⟨Nat.le_of_ble_eq_true rfl, Nat.le_of_ble_eq_true rfl⟩) hI (fun r7 E8 H locs hp hI => ?_)
          obtain ⟨he, hq⟩ := hp
          rw [hq] at hI
          subst he
          refine lv_aload_n hx hb dX0_forceOf_73 rfl (lv_at hl 0 rfl) ?_
          refine f_get (ci := 0) (v := .int (b 6)) (C := RX0) (T := TX0) (N := 12) hx hb hts (by decide +kernel) hown hG.1 hI ha hk hC rfl 6 (by decide) (hts (.fieldLink RX0 29 "CoracleRace$Boat" "soaked" "I") (by decide +kernel)) rfl dX0_forceOf_74 ?_
          refine lv_bipush (v := 6) hx hb dX0_forceOf_77 (by decide) ?_
          refine lv_idiv hx hb dX0_forceOf_79 (by decide) ?_
          refine lv_isub hx hb dX0_forceOf_80 ?_
          refine va_mmax hx hb (hml.trans hl.1.symm) hown (hts (.methodLink RX0 91 Lib.Math.max.name) (by decide +kernel)) (hts (.static Lib.Math.max.name) (by decide +kernel)) (hts (.initialized "java/lang/Math") (by decide +kernel)) (hts (.code Lib.Math.max.name Lib.Math.max.code 2 (some .int)) (by decide +kernel)) (Nat.le_of_ble_eq_true rfl) (Nat.le_of_ble_eq_true rfl) (Nat.zero_le _) (Nat.zero_le _) dX0_forceOf_81 ?_
          exact f_reti hQ hx hb hr hlocks hI.2.2 (by omega) (by omega) dX0_forceOf_84 E (fB_of hI) (⟨by simp [p_force, p_spun, p_head, p_max, p_push, va_up, c_2, c_20, c_38, n_38, c_47, n_47] <;> rfl, by rw [hC]; simp [p_turn, p_spun, p_head, va_up, c_2, c_20, c_38, n_38, c_47, n_47], hfr⟩)
        · have n_47 := c_47
          have c_47 := i_nle.mp n_47
          refine lv_aload_n hx hb dX0_forceOf_50 rfl (lv_at hl 0 rfl) ?_
          refine lv_iconst (v := 0) hx hb dX0_forceOf_51 (by decide) ?_
          refine f_put (ci := 0) (v := .int 0) (C := RX0) (T := TX0) (N := 12) hx hb hts (by decide +kernel) tyX0 tyX0_ok nmX0 hown hG.1 hI ha hk hC rfl 5 (by decide) (hts (.fieldLink RX0 26 "CoracleRace$Boat" "heading" "I") (by decide +kernel)) rfl rfl rfl (Nat.le_of_ble_eq_true rfl) dX0_forceOf_52 (fun E9 H locs hE10 hn11 hI => ?_)
          have hC : E9 kb = .inr (0, [.ref (ad (kb + 1)), .int (b 1), .int (b 2), .int (b 3), .int (b 4), .int 0, .int (b 6), .int (b 7), .int (b 8), .int (b 9), .int (b 10), .int (b 11)]) := hE10
          have hfr : ∀ q : Nat, q ≠ kb → E9 q = E q := fun q hq => (hn11 q (by omega)).trans (hfr q hq)
          refine lv_aload_n hx hb dX0_forceOf_55 rfl (lv_at hl 0 rfl) ?_
          refine lv_dup hx hb dX0_forceOf_56 rfl ?_
          refine f_get (ci := 0) (v := .int (b 10)) (C := RX0) (T := TX0) (N := 12) hx hb hts (by decide +kernel) hown hG.1 hI ha hk hC rfl 10 (by decide) (hts (.fieldLink RX0 42 "CoracleRace$Boat" "spins" "I") (by decide +kernel)) rfl dX0_forceOf_57 ?_
          refine lv_iconst (v := 1) hx hb dX0_forceOf_60 (by decide) ?_
          refine lv_iadd hx hb dX0_forceOf_61 ?_
          refine f_put (ci := 0) (v := .int ((b 10) + 1)) (C := RX0) (T := TX0) (N := 12) hx hb hts (by decide +kernel) tyX0 tyX0_ok nmX0 hown hG.1 hI ha hk hC rfl 10 (by decide) (hts (.fieldLink RX0 42 "CoracleRace$Boat" "spins" "I") (by decide +kernel)) rfl rfl rfl (Nat.le_of_ble_eq_true rfl) dX0_forceOf_62 (fun E12 H locs hE13 hn14 hI => ?_)
          have hC : E12 kb = .inr (0, [.ref (ad (kb + 1)), .int (b 1), .int (b 2), .int (b 3), .int (b 4), .int 0, .int (b 6), .int (b 7), .int (b 8), .int (b 9), .int ((b 10) + 1), .int (b 11)]) := hE13
          have hfr : ∀ q : Nat, q ≠ kb → E12 q = E q := fun q hq => (hn14 q (by omega)).trans (hfr q hq)
          refine lv_iconst (v := 0) hx hb dX0_forceOf_65 (by decide) ?_
          exact f_reti hQ hx hb hr hlocks hI.2.2 (by omega) (by omega) dX0_forceOf_66 E12 (fB_of hI) (⟨by simp [p_force, p_spun, p_head, p_max, p_push, va_up, c_2, c_20, c_38, n_38, c_47, n_47] <;> rfl, by rw [hC]; simp [p_turn, p_spun, p_head, va_up, c_2, c_20, c_38, n_38, c_47, n_47], hfr⟩)
    · refine lv_aload_n hx hb dX0_forceOf_23 rfl (lv_at hl 0 rfl) ?_
      refine lv_dup hx hb dX0_forceOf_24 rfl ?_
      refine f_get (ci := 0) (v := .int (b 5)) (C := RX0) (T := TX0) (N := 12) hx hb hts (by decide +kernel) hown hG.1 hI ha hk hC rfl 5 (by decide) (hts (.fieldLink RX0 26 "CoracleRace$Boat" "heading" "I") (by decide +kernel)) rfl dX0_forceOf_25 ?_
      refine lv_iconst (v := 1) hx hb dX0_forceOf_28 (by decide) ?_
      refine lv_isub hx hb dX0_forceOf_29 ?_
      refine f_put (ci := 0) (v := .int ((b 5) - 1)) (C := RX0) (T := TX0) (N := 12) hx hb hts (by decide +kernel) tyX0 tyX0_ok nmX0 hown hG.1 hI ha hk hC rfl 5 (by decide) (hts (.fieldLink RX0 26 "CoracleRace$Boat" "heading" "I") (by decide +kernel)) rfl rfl rfl (Nat.le_of_ble_eq_true rfl) dX0_forceOf_30 (fun E15 H locs hE16 hn17 hI => ?_)
      have hC : E15 kb = .inr (0, [.ref (ad (kb + 1)), .int (b 1), .int (b 2), .int (b 3), .int (b 4), .int ((b 5) - 1), .int (b 6), .int (b 7), .int (b 8), .int (b 9), .int (b 10), .int (b 11)]) := hE16
      have hfr : ∀ q : Nat, q ≠ kb → E15 q = E q := fun q hq => (hn17 q (by omega)).trans (hfr q hq)
      refine lv_aload_n hx hb dX0_forceOf_33 rfl (lv_at hl 0 rfl) ?_
      refine f_get (ci := 0) (v := .int ((b 5) - 1)) (C := RX0) (T := TX0) (N := 12) hx hb hts (by decide +kernel) hown hG.1 hI ha hk hC rfl 5 (by decide) (hts (.fieldLink RX0 26 "CoracleRace$Boat" "heading" "I") (by decide +kernel)) rfl dX0_forceOf_34 ?_
      refine lv_iconst (v := 4) hx hb dX0_forceOf_37 (by decide) ?_
      refine lv_icmp_gt (tgt := 50) hx hb dX0_forceOf_38 (by decide) (fun c_38 => ?_) (fun c_38 => ?_)
      · have n_38 := i_nle.mpr c_38
        refine lv_aload_n hx hb dX0_forceOf_50 rfl (lv_at hl 0 rfl) ?_
        refine lv_iconst (v := 0) hx hb dX0_forceOf_51 (by decide) ?_
        refine f_put (ci := 0) (v := .int 0) (C := RX0) (T := TX0) (N := 12) hx hb hts (by decide +kernel) tyX0 tyX0_ok nmX0 hown hG.1 hI ha hk hC rfl 5 (by decide) (hts (.fieldLink RX0 26 "CoracleRace$Boat" "heading" "I") (by decide +kernel)) rfl rfl rfl (Nat.le_of_ble_eq_true rfl) dX0_forceOf_52 (fun E18 H locs hE19 hn20 hI => ?_)
        have hC : E18 kb = .inr (0, [.ref (ad (kb + 1)), .int (b 1), .int (b 2), .int (b 3), .int (b 4), .int 0, .int (b 6), .int (b 7), .int (b 8), .int (b 9), .int (b 10), .int (b 11)]) := hE19
        have hfr : ∀ q : Nat, q ≠ kb → E18 q = E q := fun q hq => (hn20 q (by omega)).trans (hfr q hq)
        refine lv_aload_n hx hb dX0_forceOf_55 rfl (lv_at hl 0 rfl) ?_
        refine lv_dup hx hb dX0_forceOf_56 rfl ?_
        refine f_get (ci := 0) (v := .int (b 10)) (C := RX0) (T := TX0) (N := 12) hx hb hts (by decide +kernel) hown hG.1 hI ha hk hC rfl 10 (by decide) (hts (.fieldLink RX0 42 "CoracleRace$Boat" "spins" "I") (by decide +kernel)) rfl dX0_forceOf_57 ?_
        refine lv_iconst (v := 1) hx hb dX0_forceOf_60 (by decide) ?_
        refine lv_iadd hx hb dX0_forceOf_61 ?_
        refine f_put (ci := 0) (v := .int ((b 10) + 1)) (C := RX0) (T := TX0) (N := 12) hx hb hts (by decide +kernel) tyX0 tyX0_ok nmX0 hown hG.1 hI ha hk hC rfl 10 (by decide) (hts (.fieldLink RX0 42 "CoracleRace$Boat" "spins" "I") (by decide +kernel)) rfl rfl rfl (Nat.le_of_ble_eq_true rfl) dX0_forceOf_62 (fun E21 H locs hE22 hn23 hI => ?_)
        have hC : E21 kb = .inr (0, [.ref (ad (kb + 1)), .int (b 1), .int (b 2), .int (b 3), .int (b 4), .int 0, .int (b 6), .int (b 7), .int (b 8), .int (b 9), .int ((b 10) + 1), .int (b 11)]) := hE22
        have hfr : ∀ q : Nat, q ≠ kb → E21 q = E q := fun q hq => (hn23 q (by omega)).trans (hfr q hq)
        refine lv_iconst (v := 0) hx hb dX0_forceOf_65 (by decide) ?_
        exact f_reti hQ hx hb hr hlocks hI.2.2 (by omega) (by omega) dX0_forceOf_66 E21 (fB_of hI) (⟨by simp [p_force, p_spun, p_head, p_max, p_push, va_up, c_2, c_20, c_38, n_38] <;> rfl, by rw [hC]; simp [p_turn, p_spun, p_head, va_up, c_2, c_20, c_38, n_38], hfr⟩)
      · have n_38 := c_38
        have c_38 := i_nlt.mp n_38
        refine lv_aload_n hx hb dX0_forceOf_41 rfl (lv_at hl 0 rfl) ?_
        refine f_get (ci := 0) (v := .int ((b 5) - 1)) (C := RX0) (T := TX0) (N := 12) hx hb hts (by decide +kernel) hown hG.1 hI ha hk hC rfl 5 (by decide) (hts (.fieldLink RX0 26 "CoracleRace$Boat" "heading" "I") (by decide +kernel)) rfl dX0_forceOf_42 ?_
        refine lv_bipush (v := -4) hx hb dX0_forceOf_45 (by decide) ?_
        refine lv_icmp_ge (tgt := 67) hx hb dX0_forceOf_47 (by decide) (fun c_47 => ?_) (fun c_47 => ?_)
        · have n_47 := i_nlt.mpr c_47
          refine lv_iconst (v := 0) hx hb dX0_forceOf_67 (by decide) ?_
          refine lv_aload_n hx hb dX0_forceOf_68 rfl (lv_at hl 0 rfl) ?_
          refine lv_iload_n hx hb dX0_forceOf_69 rfl (lv_at hl 1 rfl) ?_
          refine f_calli1 (va_runV (As := [.int k]) (rest := [.int 0]) ⟨hx, hb, hml, hown, hts⟩ (m_X0_pushOf l ha hk (b := va_up b 5 ((b 5) - 1)) hC k) (cwV 1 hts gX0_forceOf_X0_pushOf rfl rfl rfl (by decide +kernel) ⟨Nat.le_of_ble_eq_true rfl, Nat.le_of_ble_eq_true rfl⟩) (fPre_ofV hG hI ha hk hC rfl rfl) rfl rfl hl.1 rfl (lv_room (Nat.le_of_ble_eq_true rfl)) dX0_forceOf_70 ⟨Nat.le_of_ble_eq_true rfl, Nat.le_of_ble_eq_true rfl⟩) hI (fun r24 E25 H locs hp hI => ?_)
          obtain ⟨he, hq⟩ := hp
          rw [hq] at hI
          subst he
          refine lv_aload_n hx hb dX0_forceOf_73 rfl (lv_at hl 0 rfl) ?_
          refine f_get (ci := 0) (v := .int (b 6)) (C := RX0) (T := TX0) (N := 12) hx hb hts (by decide +kernel) hown hG.1 hI ha hk hC rfl 6 (by decide) (hts (.fieldLink RX0 29 "CoracleRace$Boat" "soaked" "I") (by decide +kernel)) rfl dX0_forceOf_74 ?_
          refine lv_bipush (v := 6) hx hb dX0_forceOf_77 (by decide) ?_
          refine lv_idiv hx hb dX0_forceOf_79 (by decide) ?_
          refine lv_isub hx hb dX0_forceOf_80 ?_
          refine va_mmax hx hb (hml.trans hl.1.symm) hown (hts (.methodLink RX0 91 Lib.Math.max.name) (by decide +kernel)) (hts (.static Lib.Math.max.name) (by decide +kernel)) (hts (.initialized "java/lang/Math") (by decide +kernel)) (hts (.code Lib.Math.max.name Lib.Math.max.code 2 (some .int)) (by decide +kernel)) (Nat.le_of_ble_eq_true rfl) (Nat.le_of_ble_eq_true rfl) (Nat.zero_le _) (Nat.zero_le _) dX0_forceOf_81 ?_
          exact f_reti hQ hx hb hr hlocks hI.2.2 (by omega) (by omega) dX0_forceOf_84 E15 (fB_of hI) (⟨by simp [p_force, p_spun, p_head, p_max, p_push, va_up, c_2, c_20, c_38, n_38, c_47, n_47] <;> rfl, by rw [hC]; simp [p_turn, p_spun, p_head, va_up, c_2, c_20, c_38, n_38, c_47, n_47], hfr⟩)
        · have n_47 := c_47
          have c_47 := i_nle.mp n_47
          refine lv_aload_n hx hb dX0_forceOf_50 rfl (lv_at hl 0 rfl) ?_
          refine lv_iconst (v := 0) hx hb dX0_forceOf_51 (by decide) ?_
          refine f_put (ci := 0) (v := .int 0) (C := RX0) (T := TX0) (N := 12) hx hb hts (by decide +kernel) tyX0 tyX0_ok nmX0 hown hG.1 hI ha hk hC rfl 5 (by decide) (hts (.fieldLink RX0 26 "CoracleRace$Boat" "heading" "I") (by decide +kernel)) rfl rfl rfl (Nat.le_of_ble_eq_true rfl) dX0_forceOf_52 (fun E26 H locs hE27 hn28 hI => ?_)
          have hC : E26 kb = .inr (0, [.ref (ad (kb + 1)), .int (b 1), .int (b 2), .int (b 3), .int (b 4), .int 0, .int (b 6), .int (b 7), .int (b 8), .int (b 9), .int (b 10), .int (b 11)]) := hE27
          have hfr : ∀ q : Nat, q ≠ kb → E26 q = E q := fun q hq => (hn28 q (by omega)).trans (hfr q hq)
          refine lv_aload_n hx hb dX0_forceOf_55 rfl (lv_at hl 0 rfl) ?_
          refine lv_dup hx hb dX0_forceOf_56 rfl ?_
          refine f_get (ci := 0) (v := .int (b 10)) (C := RX0) (T := TX0) (N := 12) hx hb hts (by decide +kernel) hown hG.1 hI ha hk hC rfl 10 (by decide) (hts (.fieldLink RX0 42 "CoracleRace$Boat" "spins" "I") (by decide +kernel)) rfl dX0_forceOf_57 ?_
          refine lv_iconst (v := 1) hx hb dX0_forceOf_60 (by decide) ?_
          refine lv_iadd hx hb dX0_forceOf_61 ?_
          refine f_put (ci := 0) (v := .int ((b 10) + 1)) (C := RX0) (T := TX0) (N := 12) hx hb hts (by decide +kernel) tyX0 tyX0_ok nmX0 hown hG.1 hI ha hk hC rfl 10 (by decide) (hts (.fieldLink RX0 42 "CoracleRace$Boat" "spins" "I") (by decide +kernel)) rfl rfl rfl (Nat.le_of_ble_eq_true rfl) dX0_forceOf_62 (fun E29 H locs hE30 hn31 hI => ?_)
          have hC : E29 kb = .inr (0, [.ref (ad (kb + 1)), .int (b 1), .int (b 2), .int (b 3), .int (b 4), .int 0, .int (b 6), .int (b 7), .int (b 8), .int (b 9), .int ((b 10) + 1), .int (b 11)]) := hE30
          have hfr : ∀ q : Nat, q ≠ kb → E29 q = E q := fun q hq => (hn31 q (by omega)).trans (hfr q hq)
          refine lv_iconst (v := 0) hx hb dX0_forceOf_65 (by decide) ?_
          exact f_reti hQ hx hb hr hlocks hI.2.2 (by omega) (by omega) dX0_forceOf_66 E29 (fB_of hI) (⟨by simp [p_force, p_spun, p_head, p_max, p_push, va_up, c_2, c_20, c_38, n_38, c_47, n_47] <;> rfl, by rw [hC]; simp [p_turn, p_spun, p_head, va_up, c_2, c_20, c_38, n_38, c_47, n_47], hfr⟩)
  · refine lv_aload_n hx hb dX0_forceOf_5 rfl (lv_at hl 0 rfl) ?_
    refine lv_dup hx hb dX0_forceOf_6 rfl ?_
    refine f_get (ci := 0) (v := .int (b 5)) (C := RX0) (T := TX0) (N := 12) hx hb hts (by decide +kernel) hown hG.1 hI ha hk hC rfl 5 (by decide) (hts (.fieldLink RX0 26 "CoracleRace$Boat" "heading" "I") (by decide +kernel)) rfl dX0_forceOf_7 ?_
    refine lv_iconst (v := 1) hx hb dX0_forceOf_10 (by decide) ?_
    refine lv_iadd hx hb dX0_forceOf_11 ?_
    refine f_put (ci := 0) (v := .int ((b 5) + 1)) (C := RX0) (T := TX0) (N := 12) hx hb hts (by decide +kernel) tyX0 tyX0_ok nmX0 hown hG.1 hI ha hk hC rfl 5 (by decide) (hts (.fieldLink RX0 26 "CoracleRace$Boat" "heading" "I") (by decide +kernel)) rfl rfl rfl (Nat.le_of_ble_eq_true rfl) dX0_forceOf_12 (fun E32 H locs hE33 hn34 hI => ?_)
    have hC : E32 kb = .inr (0, [.ref (ad (kb + 1)), .int (b 1), .int (b 2), .int (b 3), .int (b 4), .int ((b 5) + 1), .int (b 6), .int (b 7), .int (b 8), .int (b 9), .int (b 10), .int (b 11)]) := hE33
    have hfr : ∀ q : Nat, q ≠ kb → E32 q = E q := fun q hq => (hn34 q (by omega)).trans (hfr q hq)
    refine lv_goto (tgt := 33) hx hb dX0_forceOf_15 (by decide) ?_
    refine lv_aload_n hx hb dX0_forceOf_33 rfl (lv_at hl 0 rfl) ?_
    refine f_get (ci := 0) (v := .int ((b 5) + 1)) (C := RX0) (T := TX0) (N := 12) hx hb hts (by decide +kernel) hown hG.1 hI ha hk hC rfl 5 (by decide) (hts (.fieldLink RX0 26 "CoracleRace$Boat" "heading" "I") (by decide +kernel)) rfl dX0_forceOf_34 ?_
    refine lv_iconst (v := 4) hx hb dX0_forceOf_37 (by decide) ?_
    refine lv_icmp_gt (tgt := 50) hx hb dX0_forceOf_38 (by decide) (fun c_38 => ?_) (fun c_38 => ?_)
    · have n_38 := i_nle.mpr c_38
      refine lv_aload_n hx hb dX0_forceOf_50 rfl (lv_at hl 0 rfl) ?_
      refine lv_iconst (v := 0) hx hb dX0_forceOf_51 (by decide) ?_
      refine f_put (ci := 0) (v := .int 0) (C := RX0) (T := TX0) (N := 12) hx hb hts (by decide +kernel) tyX0 tyX0_ok nmX0 hown hG.1 hI ha hk hC rfl 5 (by decide) (hts (.fieldLink RX0 26 "CoracleRace$Boat" "heading" "I") (by decide +kernel)) rfl rfl rfl (Nat.le_of_ble_eq_true rfl) dX0_forceOf_52 (fun E35 H locs hE36 hn37 hI => ?_)
      have hC : E35 kb = .inr (0, [.ref (ad (kb + 1)), .int (b 1), .int (b 2), .int (b 3), .int (b 4), .int 0, .int (b 6), .int (b 7), .int (b 8), .int (b 9), .int (b 10), .int (b 11)]) := hE36
      have hfr : ∀ q : Nat, q ≠ kb → E35 q = E q := fun q hq => (hn37 q (by omega)).trans (hfr q hq)
      refine lv_aload_n hx hb dX0_forceOf_55 rfl (lv_at hl 0 rfl) ?_
      refine lv_dup hx hb dX0_forceOf_56 rfl ?_
      refine f_get (ci := 0) (v := .int (b 10)) (C := RX0) (T := TX0) (N := 12) hx hb hts (by decide +kernel) hown hG.1 hI ha hk hC rfl 10 (by decide) (hts (.fieldLink RX0 42 "CoracleRace$Boat" "spins" "I") (by decide +kernel)) rfl dX0_forceOf_57 ?_
      refine lv_iconst (v := 1) hx hb dX0_forceOf_60 (by decide) ?_
      refine lv_iadd hx hb dX0_forceOf_61 ?_
      refine f_put (ci := 0) (v := .int ((b 10) + 1)) (C := RX0) (T := TX0) (N := 12) hx hb hts (by decide +kernel) tyX0 tyX0_ok nmX0 hown hG.1 hI ha hk hC rfl 10 (by decide) (hts (.fieldLink RX0 42 "CoracleRace$Boat" "spins" "I") (by decide +kernel)) rfl rfl rfl (Nat.le_of_ble_eq_true rfl) dX0_forceOf_62 (fun E38 H locs hE39 hn40 hI => ?_)
      have hC : E38 kb = .inr (0, [.ref (ad (kb + 1)), .int (b 1), .int (b 2), .int (b 3), .int (b 4), .int 0, .int (b 6), .int (b 7), .int (b 8), .int (b 9), .int ((b 10) + 1), .int (b 11)]) := hE39
      have hfr : ∀ q : Nat, q ≠ kb → E38 q = E q := fun q hq => (hn40 q (by omega)).trans (hfr q hq)
      refine lv_iconst (v := 0) hx hb dX0_forceOf_65 (by decide) ?_
      exact f_reti hQ hx hb hr hlocks hI.2.2 (by omega) (by omega) dX0_forceOf_66 E38 (fB_of hI) (⟨by simp [p_force, p_spun, p_head, p_max, p_push, va_up, c_2, c_38, n_38] <;> rfl, by rw [hC]; simp [p_turn, p_spun, p_head, va_up, c_2, c_38, n_38], hfr⟩)
    · have n_38 := c_38
      have c_38 := i_nlt.mp n_38
      refine lv_aload_n hx hb dX0_forceOf_41 rfl (lv_at hl 0 rfl) ?_
      refine f_get (ci := 0) (v := .int ((b 5) + 1)) (C := RX0) (T := TX0) (N := 12) hx hb hts (by decide +kernel) hown hG.1 hI ha hk hC rfl 5 (by decide) (hts (.fieldLink RX0 26 "CoracleRace$Boat" "heading" "I") (by decide +kernel)) rfl dX0_forceOf_42 ?_
      refine lv_bipush (v := -4) hx hb dX0_forceOf_45 (by decide) ?_
      refine lv_icmp_ge (tgt := 67) hx hb dX0_forceOf_47 (by decide) (fun c_47 => ?_) (fun c_47 => ?_)
      · have n_47 := i_nlt.mpr c_47
        refine lv_iconst (v := 0) hx hb dX0_forceOf_67 (by decide) ?_
        refine lv_aload_n hx hb dX0_forceOf_68 rfl (lv_at hl 0 rfl) ?_
        refine lv_iload_n hx hb dX0_forceOf_69 rfl (lv_at hl 1 rfl) ?_
        refine f_calli1 (va_runV (As := [.int k]) (rest := [.int 0]) ⟨hx, hb, hml, hown, hts⟩ (m_X0_pushOf l ha hk (b := va_up b 5 ((b 5) + 1)) hC k) (cwV 1 hts gX0_forceOf_X0_pushOf rfl rfl rfl (by decide +kernel) ⟨Nat.le_of_ble_eq_true rfl, Nat.le_of_ble_eq_true rfl⟩) (fPre_ofV hG hI ha hk hC rfl rfl) rfl rfl hl.1 rfl (lv_room (Nat.le_of_ble_eq_true rfl)) dX0_forceOf_70 ⟨Nat.le_of_ble_eq_true rfl, Nat.le_of_ble_eq_true rfl⟩) hI (fun r41 E42 H locs hp hI => ?_)
        obtain ⟨he, hq⟩ := hp
        rw [hq] at hI
        subst he
        refine lv_aload_n hx hb dX0_forceOf_73 rfl (lv_at hl 0 rfl) ?_
        refine f_get (ci := 0) (v := .int (b 6)) (C := RX0) (T := TX0) (N := 12) hx hb hts (by decide +kernel) hown hG.1 hI ha hk hC rfl 6 (by decide) (hts (.fieldLink RX0 29 "CoracleRace$Boat" "soaked" "I") (by decide +kernel)) rfl dX0_forceOf_74 ?_
        refine lv_bipush (v := 6) hx hb dX0_forceOf_77 (by decide) ?_
        refine lv_idiv hx hb dX0_forceOf_79 (by decide) ?_
        refine lv_isub hx hb dX0_forceOf_80 ?_
        refine va_mmax hx hb (hml.trans hl.1.symm) hown (hts (.methodLink RX0 91 Lib.Math.max.name) (by decide +kernel)) (hts (.static Lib.Math.max.name) (by decide +kernel)) (hts (.initialized "java/lang/Math") (by decide +kernel)) (hts (.code Lib.Math.max.name Lib.Math.max.code 2 (some .int)) (by decide +kernel)) (Nat.le_of_ble_eq_true rfl) (Nat.le_of_ble_eq_true rfl) (Nat.zero_le _) (Nat.zero_le _) dX0_forceOf_81 ?_
        exact f_reti hQ hx hb hr hlocks hI.2.2 (by omega) (by omega) dX0_forceOf_84 E32 (fB_of hI) (⟨by simp [p_force, p_spun, p_head, p_max, p_push, va_up, c_2, c_38, n_38, c_47, n_47] <;> rfl, by rw [hC]; simp [p_turn, p_spun, p_head, va_up, c_2, c_38, n_38, c_47, n_47], hfr⟩)
      · have n_47 := c_47
        have c_47 := i_nle.mp n_47
        refine lv_aload_n hx hb dX0_forceOf_50 rfl (lv_at hl 0 rfl) ?_
        refine lv_iconst (v := 0) hx hb dX0_forceOf_51 (by decide) ?_
        refine f_put (ci := 0) (v := .int 0) (C := RX0) (T := TX0) (N := 12) hx hb hts (by decide +kernel) tyX0 tyX0_ok nmX0 hown hG.1 hI ha hk hC rfl 5 (by decide) (hts (.fieldLink RX0 26 "CoracleRace$Boat" "heading" "I") (by decide +kernel)) rfl rfl rfl (Nat.le_of_ble_eq_true rfl) dX0_forceOf_52 (fun E43 H locs hE44 hn45 hI => ?_)
        have hC : E43 kb = .inr (0, [.ref (ad (kb + 1)), .int (b 1), .int (b 2), .int (b 3), .int (b 4), .int 0, .int (b 6), .int (b 7), .int (b 8), .int (b 9), .int (b 10), .int (b 11)]) := hE44
        have hfr : ∀ q : Nat, q ≠ kb → E43 q = E q := fun q hq => (hn45 q (by omega)).trans (hfr q hq)
        refine lv_aload_n hx hb dX0_forceOf_55 rfl (lv_at hl 0 rfl) ?_
        refine lv_dup hx hb dX0_forceOf_56 rfl ?_
        refine f_get (ci := 0) (v := .int (b 10)) (C := RX0) (T := TX0) (N := 12) hx hb hts (by decide +kernel) hown hG.1 hI ha hk hC rfl 10 (by decide) (hts (.fieldLink RX0 42 "CoracleRace$Boat" "spins" "I") (by decide +kernel)) rfl dX0_forceOf_57 ?_
        refine lv_iconst (v := 1) hx hb dX0_forceOf_60 (by decide) ?_
        refine lv_iadd hx hb dX0_forceOf_61 ?_
        refine f_put (ci := 0) (v := .int ((b 10) + 1)) (C := RX0) (T := TX0) (N := 12) hx hb hts (by decide +kernel) tyX0 tyX0_ok nmX0 hown hG.1 hI ha hk hC rfl 10 (by decide) (hts (.fieldLink RX0 42 "CoracleRace$Boat" "spins" "I") (by decide +kernel)) rfl rfl rfl (Nat.le_of_ble_eq_true rfl) dX0_forceOf_62 (fun E46 H locs hE47 hn48 hI => ?_)
        have hC : E46 kb = .inr (0, [.ref (ad (kb + 1)), .int (b 1), .int (b 2), .int (b 3), .int (b 4), .int 0, .int (b 6), .int (b 7), .int (b 8), .int (b 9), .int ((b 10) + 1), .int (b 11)]) := hE47
        have hfr : ∀ q : Nat, q ≠ kb → E46 q = E q := fun q hq => (hn48 q (by omega)).trans (hfr q hq)
        refine lv_iconst (v := 0) hx hb dX0_forceOf_65 (by decide) ?_
        exact f_reti hQ hx hb hr hlocks hI.2.2 (by omega) (by omega) dX0_forceOf_66 E46 (fB_of hI) (⟨by simp [p_force, p_spun, p_head, p_max, p_push, va_up, c_2, c_38, n_38, c_47, n_47] <;> rfl, by rw [hC]; simp [p_turn, p_spun, p_head, va_up, c_2, c_38, n_38, c_47, n_47], hfr⟩)

set_option maxHeartbeats 4000000 in
set_option maxRecDepth 100000 in
theorem m_X0_drift (l : Launch) {D : va_G} {cI cJ cB : ClassId} {t0 z : Nat} {tx ad : Nat → Nat} {L : List Nat} {E : Nat → va_E} {kb a : Nat} (ha : ad kb = a) (hk : kb ∈ L) {b : Nat → Int32} (hC : E kb = bE ad kb b) : Met l yX0_drift wsX0_drift ({ frames := 1, cells := 0, slots := 0, locals := 20 } : Room) (va_Pc [.ref a] (fPre D cI cJ cB t0 z tx ad L E)) (va_Qv (fun (E1 : Nat → va_E) => E1 kb = bE ad kb (p_drift b) ∧ ∀ q, q ≠ kb → E1 q = E q) (fB D z ad L) (fA z)) 0 0 (fA z) := by
  refine f_ofW (cc := cX0_drift) (maxL := 2) (ret := none) (by decide) rfl (Nat.le_of_ble_eq_true rfl) ?_
  intro pr e s m args below meth c Q hx hb hr hml hts hown hlocks hin hG H locs hI hQ ls hl
  have hl : lv_has ls 2 [(0, .ref a)] := hl
  have hfr : ∀ q : Nat, q ≠ kb → E q = E q := fun _ _ => rfl
  have hC : E kb = .inr (0, [.ref (ad (kb + 1)), .int (b 1), .int (b 2), .int (b 3), .int (b 4), .int (b 5), .int (b 6), .int (b 7), .int (b 8), .int (b 9), .int (b 10), .int (b 11)]) := hC
  refine lv_aload_n hx hb dX0_drift_0 rfl (lv_at hl 0 rfl) ?_
  refine f_get (ci := 0) (v := .int (b 4)) (C := RX0) (T := TX0) (N := 12) hx hb hts (by decide +kernel) hown hG.1 hI ha hk hC rfl 4 (by decide) (hts (.fieldLink RX0 23 "CoracleRace$Boat" "lane" "I") (by decide +kernel)) rfl dX0_drift_1 ?_
  refine lv_istore_n (lv' := [(1, .int (b 4)), (0, .ref a)]) hx hb dX0_drift_4 rfl hl (by decide) rfl (fun ls hl => ?_)
  refine lv_aload_n hx hb dX0_drift_5 rfl (lv_at hl 1 rfl) ?_
  refine f_get (ci := 0) (v := .int (b 5)) (C := RX0) (T := TX0) (N := 12) hx hb hts (by decide +kernel) hown hG.1 hI ha hk hC rfl 5 (by decide) (hts (.fieldLink RX0 26 "CoracleRace$Boat" "heading" "I") (by decide +kernel)) rfl dX0_drift_6 ?_
  refine lv_iconst (v := 2) hx hb dX0_drift_9 (by decide) ?_
  refine lv_icmp_lt (tgt := 23) hx hb dX0_drift_10 (by decide) (fun c_10 => ?_) (fun c_10 => ?_)
  · have n_10 := i_nle.mpr c_10
    refine lv_aload_n hx hb dX0_drift_23 rfl (lv_at hl 1 rfl) ?_
    refine f_get (ci := 0) (v := .int (b 5)) (C := RX0) (T := TX0) (N := 12) hx hb hts (by decide +kernel) hown hG.1 hI ha hk hC rfl 5 (by decide) (hts (.fieldLink RX0 26 "CoracleRace$Boat" "heading" "I") (by decide +kernel)) rfl dX0_drift_24 ?_
    refine lv_bipush (v := -2) hx hb dX0_drift_27 (by decide) ?_
    refine lv_icmp_gt (tgt := 39) hx hb dX0_drift_29 (by decide) (fun c_29 => ?_) (fun c_29 => ?_)
    · have n_29 := i_nle.mpr c_29
      have hw : p_want b = (b 4) := by simp [p_want, c_10, n_10, c_29, n_29]
      refine lv_iload_n hx hb dX0_drift_39 rfl (lv_at hl 0 rfl) ?_
      refine f_calli1 (va_runS (As := [.int (b 4)]) (rest := []) ⟨hx, hb, hml, hown, hts⟩ (m_X2_isLane l (b 4)) (va_cwS 1 hts gX0_drift_X2_isLane rfl rfl rfl (by decide +kernel) ⟨Nat.le_of_ble_eq_true rfl, Nat.le_of_ble_eq_true rfl⟩) (fPre_of hG hI) rfl rfl hl.1 rfl (lv_room (Nat.le_of_ble_eq_true rfl)) dX0_drift_40 ⟨Nat.le_of_ble_eq_true rfl, Nat.le_of_ble_eq_true rfl⟩) hI (fun r1 E2 H locs hp hI => ?_)
      obtain ⟨he, hq⟩ := hp
      rw [hq] at hI
      refine lv_if_eq (tgt := 54) hx hb dX0_drift_43 (by decide) (fun c_43 => ?_) (fun c_43 => ?_)
      · have p_43 := bl_f he c_43
        refine lv_aload_n hx hb dX0_drift_54 rfl (lv_at hl 1 rfl) ?_
        refine lv_dup hx hb dX0_drift_55 rfl ?_
        refine f_get (ci := 0) (v := .int (b 7)) (C := RX0) (T := TX0) (N := 12) hx hb hts (by decide +kernel) hown hG.1 hI ha hk hC rfl 7 (by decide) (hts (.fieldLink RX0 32 "CoracleRace$Boat" "fouls" "I") (by decide +kernel)) rfl dX0_drift_56 ?_
        refine lv_iconst (v := 3) hx hb dX0_drift_59 (by decide) ?_
        refine lv_iadd hx hb dX0_drift_60 ?_
        refine f_put (ci := 0) (v := .int ((b 7) + 3)) (C := RX0) (T := TX0) (N := 12) hx hb hts (by decide +kernel) tyX0 tyX0_ok nmX0 hown hG.1 hI ha hk hC rfl 7 (by decide) (hts (.fieldLink RX0 32 "CoracleRace$Boat" "fouls" "I") (by decide +kernel)) rfl rfl rfl (Nat.le_of_ble_eq_true rfl) dX0_drift_61 (fun E3 H locs hE4 hn5 hI => ?_)
        have hC : E3 kb = .inr (0, [.ref (ad (kb + 1)), .int (b 1), .int (b 2), .int (b 3), .int (b 4), .int (b 5), .int (b 6), .int ((b 7) + 3), .int (b 8), .int (b 9), .int (b 10), .int (b 11)]) := hE4
        have hfr : ∀ q : Nat, q ≠ kb → E3 q = E q := fun q hq => (hn5 q (by omega)).trans (hfr q hq)
        exact f_retv hQ hx hb hr hlocks hI.2.2 (by omega) (by omega) dX0_drift_64 E3 (fB_of hI) (⟨(hC).trans (by simp [p_drift, hw, va_up, if_neg p_43]), hfr⟩)
      · have p_43 := bl_t he c_43
        refine lv_aload_n hx hb dX0_drift_46 rfl (lv_at hl 1 rfl) ?_
        refine lv_iload_n hx hb dX0_drift_47 rfl (lv_at hl 0 rfl) ?_
        refine f_put (ci := 0) (v := .int (b 4)) (C := RX0) (T := TX0) (N := 12) hx hb hts (by decide +kernel) tyX0 tyX0_ok nmX0 hown hG.1 hI ha hk hC rfl 4 (by decide) (hts (.fieldLink RX0 23 "CoracleRace$Boat" "lane" "I") (by decide +kernel)) rfl rfl rfl (Nat.le_of_ble_eq_true rfl) dX0_drift_48 (fun E6 H locs hE7 hn8 hI => ?_)
        have hC : E6 kb = .inr (0, [.ref (ad (kb + 1)), .int (b 1), .int (b 2), .int (b 3), .int (b 4), .int (b 5), .int (b 6), .int (b 7), .int (b 8), .int (b 9), .int (b 10), .int (b 11)]) := hE7
        have hfr : ∀ q : Nat, q ≠ kb → E6 q = E q := fun q hq => (hn8 q (by omega)).trans (hfr q hq)
        refine lv_goto (tgt := 64) hx hb dX0_drift_51 (by decide) ?_
        exact f_retv hQ hx hb hr hlocks hI.2.2 (by omega) (by omega) dX0_drift_64 E6 (fB_of hI) (⟨(hC).trans (by simp [p_drift, hw, va_up, if_pos p_43]), hfr⟩)
    · have n_29 := c_29
      have c_29 := i_nlt.mp n_29
      refine lv_aload_n hx hb dX0_drift_32 rfl (lv_at hl 1 rfl) ?_
      refine f_get (ci := 0) (v := .int (b 4)) (C := RX0) (T := TX0) (N := 12) hx hb hts (by decide +kernel) hown hG.1 hI ha hk hC rfl 4 (by decide) (hts (.fieldLink RX0 23 "CoracleRace$Boat" "lane" "I") (by decide +kernel)) rfl dX0_drift_33 ?_
      refine lv_iconst (v := 1) hx hb dX0_drift_36 (by decide) ?_
      refine lv_isub hx hb dX0_drift_37 ?_
      refine lv_istore_n (lv' := [(1, .int ((b 4) - 1)), (0, .ref a)]) hx hb dX0_drift_38 rfl hl (by decide) rfl (fun ls hl => ?_)
      have hw : p_want b = ((b 4) - 1) := by simp [p_want, c_10, n_10, c_29, n_29]
      refine lv_iload_n hx hb dX0_drift_39 rfl (lv_at hl 0 rfl) ?_
      refine f_calli1 (va_runS (As := [.int ((b 4) - 1)]) (rest := []) ⟨hx, hb, hml, hown, hts⟩ (m_X2_isLane l ((b 4) - 1)) (va_cwS 1 hts gX0_drift_X2_isLane rfl rfl rfl (by decide +kernel) ⟨Nat.le_of_ble_eq_true rfl, Nat.le_of_ble_eq_true rfl⟩) (fPre_of hG hI) rfl rfl hl.1 rfl (lv_room (Nat.le_of_ble_eq_true rfl)) dX0_drift_40 ⟨Nat.le_of_ble_eq_true rfl, Nat.le_of_ble_eq_true rfl⟩) hI (fun r9 E10 H locs hp hI => ?_)
      obtain ⟨he, hq⟩ := hp
      rw [hq] at hI
      refine lv_if_eq (tgt := 54) hx hb dX0_drift_43 (by decide) (fun c_43 => ?_) (fun c_43 => ?_)
      · have p_43 := bl_f he c_43
        refine lv_aload_n hx hb dX0_drift_54 rfl (lv_at hl 1 rfl) ?_
        refine lv_dup hx hb dX0_drift_55 rfl ?_
        refine f_get (ci := 0) (v := .int (b 7)) (C := RX0) (T := TX0) (N := 12) hx hb hts (by decide +kernel) hown hG.1 hI ha hk hC rfl 7 (by decide) (hts (.fieldLink RX0 32 "CoracleRace$Boat" "fouls" "I") (by decide +kernel)) rfl dX0_drift_56 ?_
        refine lv_iconst (v := 3) hx hb dX0_drift_59 (by decide) ?_
        refine lv_iadd hx hb dX0_drift_60 ?_
        refine f_put (ci := 0) (v := .int ((b 7) + 3)) (C := RX0) (T := TX0) (N := 12) hx hb hts (by decide +kernel) tyX0 tyX0_ok nmX0 hown hG.1 hI ha hk hC rfl 7 (by decide) (hts (.fieldLink RX0 32 "CoracleRace$Boat" "fouls" "I") (by decide +kernel)) rfl rfl rfl (Nat.le_of_ble_eq_true rfl) dX0_drift_61 (fun E11 H locs hE12 hn13 hI => ?_)
        have hC : E11 kb = .inr (0, [.ref (ad (kb + 1)), .int (b 1), .int (b 2), .int (b 3), .int (b 4), .int (b 5), .int (b 6), .int ((b 7) + 3), .int (b 8), .int (b 9), .int (b 10), .int (b 11)]) := hE12
        have hfr : ∀ q : Nat, q ≠ kb → E11 q = E q := fun q hq => (hn13 q (by omega)).trans (hfr q hq)
        exact f_retv hQ hx hb hr hlocks hI.2.2 (by omega) (by omega) dX0_drift_64 E11 (fB_of hI) (⟨(hC).trans (by simp [p_drift, hw, va_up, if_neg p_43]), hfr⟩)
      · have p_43 := bl_t he c_43
        refine lv_aload_n hx hb dX0_drift_46 rfl (lv_at hl 1 rfl) ?_
        refine lv_iload_n hx hb dX0_drift_47 rfl (lv_at hl 0 rfl) ?_
        refine f_put (ci := 0) (v := .int ((b 4) - 1)) (C := RX0) (T := TX0) (N := 12) hx hb hts (by decide +kernel) tyX0 tyX0_ok nmX0 hown hG.1 hI ha hk hC rfl 4 (by decide) (hts (.fieldLink RX0 23 "CoracleRace$Boat" "lane" "I") (by decide +kernel)) rfl rfl rfl (Nat.le_of_ble_eq_true rfl) dX0_drift_48 (fun E14 H locs hE15 hn16 hI => ?_)
        have hC : E14 kb = .inr (0, [.ref (ad (kb + 1)), .int (b 1), .int (b 2), .int (b 3), .int ((b 4) - 1), .int (b 5), .int (b 6), .int (b 7), .int (b 8), .int (b 9), .int (b 10), .int (b 11)]) := hE15
        have hfr : ∀ q : Nat, q ≠ kb → E14 q = E q := fun q hq => (hn16 q (by omega)).trans (hfr q hq)
        refine lv_goto (tgt := 64) hx hb dX0_drift_51 (by decide) ?_
        exact f_retv hQ hx hb hr hlocks hI.2.2 (by omega) (by omega) dX0_drift_64 E14 (fB_of hI) (⟨(hC).trans (by simp [p_drift, hw, va_up, if_pos p_43]), hfr⟩)
  · have n_10 := c_10
    have c_10 := i_nlt.mp n_10
    refine lv_aload_n hx hb dX0_drift_13 rfl (lv_at hl 1 rfl) ?_
    refine f_get (ci := 0) (v := .int (b 4)) (C := RX0) (T := TX0) (N := 12) hx hb hts (by decide +kernel) hown hG.1 hI ha hk hC rfl 4 (by decide) (hts (.fieldLink RX0 23 "CoracleRace$Boat" "lane" "I") (by decide +kernel)) rfl dX0_drift_14 ?_
    refine lv_iconst (v := 1) hx hb dX0_drift_17 (by decide) ?_
    refine lv_iadd hx hb dX0_drift_18 ?_
    refine lv_istore_n (lv' := [(1, .int ((b 4) + 1)), (0, .ref a)]) hx hb dX0_drift_19 rfl hl (by decide) rfl (fun ls hl => ?_)
    refine lv_goto (tgt := 39) hx hb dX0_drift_20 (by decide) ?_
    have hw : p_want b = ((b 4) + 1) := by simp [p_want, c_10, n_10]
    refine lv_iload_n hx hb dX0_drift_39 rfl (lv_at hl 0 rfl) ?_
    refine f_calli1 (va_runS (As := [.int ((b 4) + 1)]) (rest := []) ⟨hx, hb, hml, hown, hts⟩ (m_X2_isLane l ((b 4) + 1)) (va_cwS 1 hts gX0_drift_X2_isLane rfl rfl rfl (by decide +kernel) ⟨Nat.le_of_ble_eq_true rfl, Nat.le_of_ble_eq_true rfl⟩) (fPre_of hG hI) rfl rfl hl.1 rfl (lv_room (Nat.le_of_ble_eq_true rfl)) dX0_drift_40 ⟨Nat.le_of_ble_eq_true rfl, Nat.le_of_ble_eq_true rfl⟩) hI (fun r17 E18 H locs hp hI => ?_)
    obtain ⟨he, hq⟩ := hp
    rw [hq] at hI
    refine lv_if_eq (tgt := 54) hx hb dX0_drift_43 (by decide) (fun c_43 => ?_) (fun c_43 => ?_)
    · have p_43 := bl_f he c_43
      refine lv_aload_n hx hb dX0_drift_54 rfl (lv_at hl 1 rfl) ?_
      refine lv_dup hx hb dX0_drift_55 rfl ?_
      refine f_get (ci := 0) (v := .int (b 7)) (C := RX0) (T := TX0) (N := 12) hx hb hts (by decide +kernel) hown hG.1 hI ha hk hC rfl 7 (by decide) (hts (.fieldLink RX0 32 "CoracleRace$Boat" "fouls" "I") (by decide +kernel)) rfl dX0_drift_56 ?_
      refine lv_iconst (v := 3) hx hb dX0_drift_59 (by decide) ?_
      refine lv_iadd hx hb dX0_drift_60 ?_
      refine f_put (ci := 0) (v := .int ((b 7) + 3)) (C := RX0) (T := TX0) (N := 12) hx hb hts (by decide +kernel) tyX0 tyX0_ok nmX0 hown hG.1 hI ha hk hC rfl 7 (by decide) (hts (.fieldLink RX0 32 "CoracleRace$Boat" "fouls" "I") (by decide +kernel)) rfl rfl rfl (Nat.le_of_ble_eq_true rfl) dX0_drift_61 (fun E19 H locs hE20 hn21 hI => ?_)
      have hC : E19 kb = .inr (0, [.ref (ad (kb + 1)), .int (b 1), .int (b 2), .int (b 3), .int (b 4), .int (b 5), .int (b 6), .int ((b 7) + 3), .int (b 8), .int (b 9), .int (b 10), .int (b 11)]) := hE20
      have hfr : ∀ q : Nat, q ≠ kb → E19 q = E q := fun q hq => (hn21 q (by omega)).trans (hfr q hq)
      exact f_retv hQ hx hb hr hlocks hI.2.2 (by omega) (by omega) dX0_drift_64 E19 (fB_of hI) (⟨(hC).trans (by simp [p_drift, hw, va_up, if_neg p_43]), hfr⟩)
    · have p_43 := bl_t he c_43
      refine lv_aload_n hx hb dX0_drift_46 rfl (lv_at hl 1 rfl) ?_
      refine lv_iload_n hx hb dX0_drift_47 rfl (lv_at hl 0 rfl) ?_
      refine f_put (ci := 0) (v := .int ((b 4) + 1)) (C := RX0) (T := TX0) (N := 12) hx hb hts (by decide +kernel) tyX0 tyX0_ok nmX0 hown hG.1 hI ha hk hC rfl 4 (by decide) (hts (.fieldLink RX0 23 "CoracleRace$Boat" "lane" "I") (by decide +kernel)) rfl rfl rfl (Nat.le_of_ble_eq_true rfl) dX0_drift_48 (fun E22 H locs hE23 hn24 hI => ?_)
      have hC : E22 kb = .inr (0, [.ref (ad (kb + 1)), .int (b 1), .int (b 2), .int (b 3), .int ((b 4) + 1), .int (b 5), .int (b 6), .int (b 7), .int (b 8), .int (b 9), .int (b 10), .int (b 11)]) := hE23
      have hfr : ∀ q : Nat, q ≠ kb → E22 q = E q := fun q hq => (hn24 q (by omega)).trans (hfr q hq)
      refine lv_goto (tgt := 64) hx hb dX0_drift_51 (by decide) ?_
      exact f_retv hQ hx hb hr hlocks hI.2.2 (by omega) (by omega) dX0_drift_64 E22 (fB_of hI) (⟨(hC).trans (by simp [p_drift, hw, va_up, if_pos p_43]), hfr⟩)

set_option maxHeartbeats 4000000 in
set_option maxRecDepth 100000 in
theorem m_J9_floorMod_7cf53 (l : Launch) {D : va_G} {cI cJ cB : ClassId} {t0 z : Nat} {tx ad : Nat → Nat} {L : List Nat} {E : Nat → va_E} (x y : Int32) (hx0 : 0 ≤ x) (hy0 : 0 < y) : Met l yJ9_floorMod_7cf53 wsJ9_floorMod_7cf53 ({ frames := 0, cells := 0, slots := 0, locals := 0 } : Room) (va_Pc [.int x, .int y] (fPre D cI cJ cB t0 z tx ad L E)) (va_Qi (fun (r : Int32) (E1 : Nat → va_E) => r = p_rem x y ∧ E1 = E) (fB D z ad L) (fA z)) 0 0 (fA z) := by
  refine f_ofWF (cc := cJ9_floorMod_7cf53) (maxL := 3) (ret := some .int) (by decide +kernel) rfl (Nat.le_of_ble_eq_true rfl) ?_
  intro pr e s m args below meth c Q hx hb hr hml hts hown hlocks hin hG H locs hI hQ ls hl
  have hl : lv_has ls 3 [(0, .int x), (1, .int y)] := hl
  refine lv_iload_n hx hb dJ9_floorMod_7cf53_0 rfl (lv_at hl 0 rfl) ?_
  refine lv_iload_n hx hb dJ9_floorMod_7cf53_1 rfl (lv_at hl 1 rfl) ?_
  refine lv_irem hx hb dJ9_floorMod_7cf53_2 (fun q => by rw [q] at hy0; exact absurd hy0 (by decide)) ?_
  refine lv_istore_n (lv' := [(2, .int (x - x / y * y)), (0, .int x), (1, .int y)]) hx hb dJ9_floorMod_7cf53_3 rfl hl (by decide) rfl (fun ls hl => ?_)
  refine lv_iload_n hx hb dJ9_floorMod_7cf53_4 rfl (lv_at hl 1 rfl) ?_
  refine lv_iload_n hx hb dJ9_floorMod_7cf53_5 rfl (lv_at hl 2 rfl) ?_
  refine lv_ixor hx hb dJ9_floorMod_7cf53_6 ?_
  refine lv_if_ge (tgt := 18) hx hb dJ9_floorMod_7cf53_7 (by decide) (fun c_7 => ?_) (fun c_7 => ?_)
  · have n_7 := i_nlt.mpr c_7
    refine lv_iload_n hx hb dJ9_floorMod_7cf53_18 rfl (lv_at hl 0 rfl) ?_
    exact f_reti hQ hx hb hr hlocks hI.2.2 (by omega) (by omega) dJ9_floorMod_7cf53_19 E (fB_of hI) (⟨rfl, rfl⟩)
  · exact absurd (xor_pos hx0 hy0) (i_nle.mpr (i_nle.mp c_7))

set_option maxHeartbeats 4000000 in
set_option maxRecDepth 100000 in
theorem m_X0_strokeIn (l : Launch) {D : va_G} {cI cJ cB : ClassId} {t0 z : Nat} {tx ad : Nat → Nat} {L : List Nat} {E : Nat → va_E} {kb a : Nat} (ha : ad kb = a) (hk : kb ∈ L) {b : Nat → Int32} (hC : E kb = bE ad kb b) {f : Nat → Int32} (hk1 : kb + 1 ∈ L) (hF : E (kb + 1) = .inl (cI, 6, .inl f)) (t : Int32) (ht : 0 ≤ t) : Met l yX0_strokeIn wsX0_strokeIn ({ frames := 1, cells := 0, slots := 0, locals := 22 } : Room) (va_Pc [.ref a, .int t] (fPre D cI cJ cB t0 z tx ad L E)) (va_Qi (fun (r : Int32) (E1 : Nat → va_E) => r = p_stk b f t ∧ E1 = E) (fB D z ad L) (fA z)) 0 0 (fA z) := by
  refine f_ofW (cc := cX0_strokeIn) (maxL := 2) (ret := some .int) (by decide) rfl (Nat.le_of_ble_eq_true rfl) ?_
  intro pr e s m args below meth c Q hx hb hr hml hts hown hlocks hin hG H locs hI hQ ls hl
  have hl : lv_has ls 2 [(0, .ref a), (1, .int t)] := hl
  have hC : E kb = .inr (0, [.ref (ad (kb + 1)), .int (b 1), .int (b 2), .int (b 3), .int (b 4), .int (b 5), .int (b 6), .int (b 7), .int (b 8), .int (b 9), .int (b 10), .int (b 11)]) := hC
  have hF : E (kb + 1) = .inl (cI, 6, .inl f) := hF
  refine lv_aload_n hx hb dX0_strokeIn_0 rfl (lv_at hl 0 rfl) ?_
  refine f_get (ci := 0) (v := .int (b 1)) (C := RX0) (T := TX0) (N := 12) hx hb hts (by decide +kernel) hown hG.1 hI ha hk hC rfl 1 (by decide) (hts (.fieldLink RX0 13 "CoracleRace$Boat" "length" "I") (by decide +kernel)) rfl dX0_strokeIn_1 ?_
  refine lv_iconst (v := 1) hx hb dX0_strokeIn_4 (by decide) ?_
  refine lv_icmp_lt (tgt := 17) hx hb dX0_strokeIn_5 (by decide) (fun c_5 => ?_) (fun c_5 => ?_)
  · have n_5 := i_nle.mpr c_5
    refine lv_iconst (v := 0) hx hb dX0_strokeIn_17 (by decide) ?_
    exact f_reti hQ hx hb hr hlocks hI.2.2 (by omega) (by omega) dX0_strokeIn_18 E (fB_of hI) (⟨by simp [p_stk, c_5, n_5], rfl⟩)
  · have n_5 := c_5
    have c_5 := i_nlt.mp n_5
    refine lv_aload_n hx hb dX0_strokeIn_8 rfl (lv_at hl 0 rfl) ?_
    refine f_get (ci := 0) (v := .int (b 1)) (C := RX0) (T := TX0) (N := 12) hx hb hts (by decide +kernel) hown hG.1 hI ha hk hC rfl 1 (by decide) (hts (.fieldLink RX0 13 "CoracleRace$Boat" "length" "I") (by decide +kernel)) rfl dX0_strokeIn_9 ?_
    refine lv_bipush (v := 6) hx hb dX0_strokeIn_12 (by decide) ?_
    refine lv_icmp_le (tgt := 19) hx hb dX0_strokeIn_14 (by decide) (fun c_14 => ?_) (fun c_14 => ?_)
    · have n_14 := i_nlt.mpr c_14
      refine lv_aload_n hx hb dX0_strokeIn_19 rfl (lv_at hl 0 rfl) ?_
      refine f_get (ci := 0) (v := .ref (ad (kb + 1))) (C := RX0) (T := TX0) (N := 12) hx hb hts (by decide +kernel) hown hG.1 hI ha hk hC rfl 0 (by decide) (hts (.fieldLink RX0 9 "CoracleRace$Boat" "strokes" "[I") (by decide +kernel)) rfl dX0_strokeIn_20 ?_
      refine lv_iload_n hx hb dX0_strokeIn_23 rfl (lv_at hl 1 rfl) ?_
      refine lv_aload_n hx hb dX0_strokeIn_24 rfl (lv_at hl 0 rfl) ?_
      refine f_get (ci := 0) (v := .int (b 1)) (C := RX0) (T := TX0) (N := 12) hx hb hts (by decide +kernel) hown hG.1 hI ha hk hC rfl 1 (by decide) (hts (.fieldLink RX0 13 "CoracleRace$Boat" "length" "I") (by decide +kernel)) rfl dX0_strokeIn_25 ?_
      refine f_calli1 (va_runS (As := [.int t, .int (b 1)]) (rest := [.ref (ad (kb + 1))]) ⟨hx, hb, hml, hown, hts⟩ (m_J9_floorMod_7cf53 l t (b 1) ht (pos_of c_5)) (va_cwS 2 hts gX0_strokeIn_J9_floorMod_7cf53 rfl rfl rfl (by decide +kernel) ⟨Nat.le_of_ble_eq_true rfl, Nat.le_of_ble_eq_true rfl⟩) (fPre_of hG hI) rfl rfl hl.1 rfl (lv_room (Nat.le_of_ble_eq_true rfl)) dX0_strokeIn_28 ⟨Nat.le_of_ble_eq_true rfl, Nat.le_of_ble_eq_true rfl⟩) hI (fun r1 E2 H locs hp hI => ?_)
      obtain ⟨he3, hq⟩ := hp
      rw [hq] at hI
      have he3 : r1 = (p_rem t (b 1)) := he3
      subst he3
      refine f_iald hx hb hG.1 hI rfl hk1 hF (rem_ix ht c_5 c_14) dX0_strokeIn_31 ?_
      exact f_reti hQ hx hb hr hlocks hI.2.2 (by omega) (by omega) dX0_strokeIn_32 E (fB_of hI) (⟨by simp [p_stk, c_5, n_5, c_14, n_14], rfl⟩)
    · have n_14 := c_14
      have c_14 := i_nle.mp n_14
      refine lv_iconst (v := 0) hx hb dX0_strokeIn_17 (by decide) ?_
      exact f_reti hQ hx hb hr hlocks hI.2.2 (by omega) (by omega) dX0_strokeIn_18 E (fB_of hI) (⟨by simp [p_stk, c_5, n_5, c_14, n_14], rfl⟩)

set_option maxHeartbeats 4000000 in
set_option maxRecDepth 100000 in
theorem m_X0_advance (l : Launch) {D : va_G} {cI cJ cB : ClassId} {t0 z : Nat} {tx ad : Nat → Nat} {L : List Nat} {E : Nat → va_E} {kb a : Nat} (ha : ad kb = a) (hk : kb ∈ L) {b : Nat → Int32} (hC : E kb = bE ad kb b) (h10 : 10 ≤ kb) {w p g : Nat → Int32} {n : Nat} (hn : n ≤ 6) (hr1 : 1 ∈ L) (hr2 : 2 ∈ L) (hr3 : 3 ∈ L) (hr4 : 4 ∈ L) (hR : E 1 = rE ad n) (hRw : E 2 = .inl (cI, 5, .inl w)) (hRp : E 3 = .inl (cI, 6, .inl p)) (hRg : E 4 = .inl (cI, 6, .inl g)) (f : Int32) : Met l yX0_advance wsX0_advance ({ frames := 2, cells := 0, slots := 0, locals := 35 } : Room) (va_Pc [.ref a, .ref (ad 1), .int f] (fPre D cI cJ cB t0 z tx ad L E)) (va_Qv (fun (E1 : Nat → va_E) => E1 kb = bE ad kb (p_adv w p g n b f) ∧ ∀ q, q ≠ kb → E1 q = E q) (fB D z ad L) (fA z)) 0 0 (fA z) := by
  refine f_ofW (cc := cX0_advance) (maxL := 5) (ret := none) (by decide) rfl (Nat.le_of_ble_eq_true rfl) ?_
  intro pr e s m args below meth c Q hx hb hr hml hts hown hlocks hin hG H locs hI hQ ls hl
  have hl : lv_has ls 5 [(0, .ref a), (1, .ref (ad 1)), (2, .int f)] := hl
  have hfr : ∀ q : Nat, q ≠ kb → E q = E q := fun _ _ => rfl
  have hC : E kb = .inr (0, [.ref (ad (kb + 1)), .int (b 1), .int (b 2), .int (b 3), .int (b 4), .int (b 5), .int (b 6), .int (b 7), .int (b 8), .int (b 9), .int (b 10), .int (b 11)]) := hC
  have hR : E 1 = .inr (2, [.ref (ad 2), .ref (ad 3), .ref (ad 4), .int (nI n)]) := hR
  have hRw : E 2 = .inl (cI, 5, .inl w) := hRw
  have hRp : E 3 = .inl (cI, 6, .inl p) := hRp
  have hRg : E 4 = .inl (cI, 6, .inl g) := hRg
  refine lv_aload_n hx hb dX0_advance_0 rfl (lv_at hl 0 rfl) ?_
  refine f_get (ci := 0) (v := .int (b 4)) (C := RX0) (T := TX0) (N := 12) hx hb hts (by decide +kernel) hown hG.1 hI ha hk hC rfl 4 (by decide) (hts (.fieldLink RX0 23 "CoracleRace$Boat" "lane" "I") (by decide +kernel)) rfl dX0_advance_1 ?_
  refine f_calli1 (va_runS (As := [.int (b 4)]) (rest := []) ⟨hx, hb, hml, hown, hts⟩ (m_X2_isLane l (b 4)) (va_cwS 1 hts gX0_advance_X2_isLane rfl rfl rfl (by decide +kernel) ⟨Nat.le_of_ble_eq_true rfl, Nat.le_of_ble_eq_true rfl⟩) (fPre_of hG hI) rfl rfl hl.1 rfl (lv_room (Nat.le_of_ble_eq_true rfl)) dX0_advance_4 ⟨Nat.le_of_ble_eq_true rfl, Nat.le_of_ble_eq_true rfl⟩) hI (fun r1 E2 H locs hp hI => ?_)
  obtain ⟨he0, hq⟩ := hp
  rw [hq] at hI
  refine lv_if_ne (tgt := 11) hx hb dX0_advance_7 (by decide) (fun c_7 => ?_) (fun c_7 => ?_)
  · have p_7 := bl_t he0 c_7
    refine lv_iload_n hx hb dX0_advance_11 rfl (lv_at hl 2 rfl) ?_
    refine lv_iconst (v := 4) hx hb dX0_advance_12 (by decide) ?_
    refine lv_aload_n hx hb dX0_advance_13 rfl (lv_at hl 0 rfl) ?_
    refine f_get (ci := 0) (v := .int (b 5)) (C := RX0) (T := TX0) (N := 12) hx hb hts (by decide +kernel) hown hG.1 hI ha hk hC rfl 5 (by decide) (hts (.fieldLink RX0 26 "CoracleRace$Boat" "heading" "I") (by decide +kernel)) rfl dX0_advance_14 ?_
    refine va_mabs hx hb (hml.trans hl.1.symm) hown (hts (.methodLink RX0 98 Lib.Math.abs.name) (by decide +kernel)) (hts (.static Lib.Math.abs.name) (by decide +kernel)) (hts (.initialized "java/lang/Math") (by decide +kernel)) (hts (.code Lib.Math.abs.name Lib.Math.abs.code 1 (some .int)) (by decide +kernel)) (Nat.le_of_ble_eq_true rfl) (Nat.le_of_ble_eq_true rfl) (Nat.zero_le _) (Nat.zero_le _) dX0_advance_17 ?_
    refine lv_isub hx hb dX0_advance_20 ?_
    refine lv_imul hx hb dX0_advance_21 ?_
    refine lv_iconst (v := 4) hx hb dX0_advance_22 (by decide) ?_
    refine lv_idiv hx hb dX0_advance_23 (by decide) ?_
    refine lv_aload_n hx hb dX0_advance_24 rfl (lv_at hl 1 rfl) ?_
    refine f_get (ci := 2) (v := .ref (ad 2)) (C := RX2) (T := TX2) (N := 4) hx hb hts (by decide +kernel) hown hG.1 hI rfl hr1 hR rfl 0 (by decide) (hts (.fieldLink RX0 101 "CoracleRace$River" "water" "[I") (by decide +kernel)) rfl dX0_advance_25 ?_
    refine lv_aload_n hx hb dX0_advance_28 rfl (lv_at hl 0 rfl) ?_
    refine f_get (ci := 0) (v := .int (b 4)) (C := RX0) (T := TX0) (N := 12) hx hb hts (by decide +kernel) hown hG.1 hI ha hk hC rfl 4 (by decide) (hts (.fieldLink RX0 23 "CoracleRace$Boat" "lane" "I") (by decide +kernel)) rfl dX0_advance_29 ?_
    refine f_iald hx hb hG.1 hI rfl hr2 hRw (lane_ix p_7) dX0_advance_32 ?_
    refine lv_iadd hx hb dX0_advance_33 ?_
    refine lv_topi (fun tv etv => ?_)
    have etv : tv = p_way w b f := etv.trans (rfl)
    subst etv
    refine lv_istore_n (lv' := [(3, .int (p_way w b f)), (0, .ref a), (1, .ref (ad 1)), (2, .int f)]) hx hb dX0_advance_34 rfl hl (by decide) rfl (fun ls hl => ?_)
    refine lv_aload_n hx hb dX0_advance_35 rfl (lv_at hl 2 rfl) ?_
    refine lv_aload_n hx hb dX0_advance_36 rfl (lv_at hl 1 rfl) ?_
    refine f_get (ci := 0) (v := .int (b 3)) (C := RX0) (T := TX0) (N := 12) hx hb hts (by decide +kernel) hown hG.1 hI ha hk hC rfl 3 (by decide) (hts (.fieldLink RX0 20 "CoracleRace$Boat" "place" "I") (by decide +kernel)) rfl dX0_advance_37 ?_
    refine lv_aload_n hx hb dX0_advance_40 rfl (lv_at hl 1 rfl) ?_
    refine f_get (ci := 0) (v := .int (b 3)) (C := RX0) (T := TX0) (N := 12) hx hb hts (by decide +kernel) hown hG.1 hI ha hk hC rfl 3 (by decide) (hts (.fieldLink RX0 20 "CoracleRace$Boat" "place" "I") (by decide +kernel)) rfl dX0_advance_41 ?_
    refine lv_iload_n hx hb dX0_advance_44 rfl (lv_at hl 0 rfl) ?_
    refine lv_iadd hx hb dX0_advance_45 ?_
    refine lv_aload_n hx hb dX0_advance_46 rfl (lv_at hl 1 rfl) ?_
    refine f_get (ci := 0) (v := .int (b 4)) (C := RX0) (T := TX0) (N := 12) hx hb hts (by decide +kernel) hown hG.1 hI ha hk hC rfl 4 (by decide) (hts (.fieldLink RX0 23 "CoracleRace$Boat" "lane" "I") (by decide +kernel)) rfl dX0_advance_47 ?_
    refine f_calli1 (va_runV (As := [.int (b 3), .int ((b 3) + p_way w b f), .int (b 4)]) (rest := []) ⟨hx, hb, hml, hown, hts⟩ (m_X2_firstStop l hn hr1 hr2 hr3 hr4 hR hRw hRp hRg (b 3) (b 3 + p_way w b f) (b 4)) (cwV 3 hts gX0_advance_X2_firstStop rfl rfl rfl (by decide +kernel) ⟨Nat.le_of_ble_eq_true rfl, Nat.le_of_ble_eq_true rfl⟩) (fPre_ofV hG hI rfl hr1 hR rfl rfl) rfl rfl hl.1 rfl (lv_room (Nat.le_of_ble_eq_true rfl)) dX0_advance_50 ⟨Nat.le_of_ble_eq_true rfl, Nat.le_of_ble_eq_true rfl⟩) hI (fun r3 E4 H locs hp hI => ?_)
    obtain ⟨he, hq⟩ := hp
    rw [hq] at hI
    have he : r3 = (p_stops w p g n b f) := he
    subst he
    refine lv_istore (lv' := [(4, .int (p_stops w p g n b f)), (3, .int (p_way w b f)), (0, .ref a), (1, .ref (ad 1)), (2, .int f)]) hx hb dX0_advance_53 hl (by decide) rfl (fun ls hl => ?_)
    refine lv_iload hx hb dX0_advance_55 (lv_at hl 0 rfl) ?_
    refine lv_iconst (v := -1) hx hb dX0_advance_57 (by decide) ?_
    refine lv_icmp_ne (tgt := 78) hx hb dX0_advance_58 (by decide) (fun c_58 => ?_) (fun c_58 => ?_)
    · refine lv_aload_n hx hb dX0_advance_78 rfl (lv_at hl 2 rfl) ?_
      refine lv_iload hx hb dX0_advance_79 (lv_at hl 0 rfl) ?_
      refine f_put (ci := 0) (v := .int (p_stops w p g n b f)) (C := RX0) (T := TX0) (N := 12) hx hb hts (by decide +kernel) tyX0 tyX0_ok nmX0 hown hG.1 hI ha hk hC rfl 3 (by decide) (hts (.fieldLink RX0 20 "CoracleRace$Boat" "place" "I") (by decide +kernel)) rfl rfl rfl (Nat.le_of_ble_eq_true rfl) dX0_advance_81 (fun E5 H locs hE6 hn7 hI => ?_)
      have hC : E5 kb = .inr (0, [.ref (ad (kb + 1)), .int (b 1), .int (b 2), .int (p_stops w p g n b f), .int (b 4), .int (b 5), .int (b 6), .int (b 7), .int (b 8), .int (b 9), .int (b 10), .int (b 11)]) := hE6
      have hR : E5 1 = .inr (2, [.ref (ad 2), .ref (ad 3), .ref (ad 4), .int (nI n)]) := (hn7 1 (by omega)).trans hR
      have hRw : E5 2 = .inl (cI, 5, .inl w) := (hn7 2 (by omega)).trans hRw
      have hRp : E5 3 = .inl (cI, 6, .inl p) := (hn7 3 (by omega)).trans hRp
      have hRg : E5 4 = .inl (cI, 6, .inl g) := (hn7 4 (by omega)).trans hRg
      have hfr : ∀ q : Nat, q ≠ kb → E5 q = E q := fun q hq => (hn7 q (by omega)).trans (hfr q hq)
      refine lv_aload_n hx hb dX0_advance_84 rfl (lv_at hl 2 rfl) ?_
      refine lv_iconst (v := 0) hx hb dX0_advance_85 (by decide) ?_
      refine f_put (ci := 0) (v := .int 0) (C := RX0) (T := TX0) (N := 12) hx hb hts (by decide +kernel) tyX0 tyX0_ok nmX0 hown hG.1 hI ha hk hC rfl 5 (by decide) (hts (.fieldLink RX0 26 "CoracleRace$Boat" "heading" "I") (by decide +kernel)) rfl rfl rfl (Nat.le_of_ble_eq_true rfl) dX0_advance_86 (fun E8 H locs hE9 hn10 hI => ?_)
      have hC : E8 kb = .inr (0, [.ref (ad (kb + 1)), .int (b 1), .int (b 2), .int (p_stops w p g n b f), .int (b 4), .int 0, .int (b 6), .int (b 7), .int (b 8), .int (b 9), .int (b 10), .int (b 11)]) := hE9
      have hR : E8 1 = .inr (2, [.ref (ad 2), .ref (ad 3), .ref (ad 4), .int (nI n)]) := (hn10 1 (by omega)).trans hR
      have hRw : E8 2 = .inl (cI, 5, .inl w) := (hn10 2 (by omega)).trans hRw
      have hRp : E8 3 = .inl (cI, 6, .inl p) := (hn10 3 (by omega)).trans hRp
      have hRg : E8 4 = .inl (cI, 6, .inl g) := (hn10 4 (by omega)).trans hRg
      have hfr : ∀ q : Nat, q ≠ kb → E8 q = E q := fun q hq => (hn10 q (by omega)).trans (hfr q hq)
      refine lv_aload_n hx hb dX0_advance_89 rfl (lv_at hl 2 rfl) ?_
      refine lv_iconst (v := 5) hx hb dX0_advance_90 (by decide) ?_
      refine f_callv1 (va_runV (As := [.int 5]) (rest := []) ⟨hx, hb, hml, hown, hts⟩ (m_X0_soak l ha hk (b := va_up (va_up b 3 (p_stops w p g n b f)) 5 0) hC 5) (cwV 1 hts gX0_advance_X0_soak rfl rfl rfl (by decide +kernel) ⟨Nat.le_of_ble_eq_true rfl, Nat.le_of_ble_eq_true rfl⟩) (fPre_ofV hG hI ha hk hC rfl rfl) rfl rfl hl.1 rfl (lv_room (Nat.le_of_ble_eq_true rfl)) dX0_advance_91 ⟨Nat.le_of_ble_eq_true rfl, Nat.le_of_ble_eq_true rfl⟩) hI (fun E11 H locs hp hI => ?_)
      obtain ⟨hE13, hn12⟩ := hp
      have hC : E11 kb = .inr (0, [.ref (ad (kb + 1)), .int ((p_soak (va_up (va_up b 3 (p_stops w p g n b f)) 5 0) 5) 1), .int ((p_soak (va_up (va_up b 3 (p_stops w p g n b f)) 5 0) 5) 2), .int ((p_soak (va_up (va_up b 3 (p_stops w p g n b f)) 5 0) 5) 3), .int ((p_soak (va_up (va_up b 3 (p_stops w p g n b f)) 5 0) 5) 4), .int ((p_soak (va_up (va_up b 3 (p_stops w p g n b f)) 5 0) 5) 5), .int ((p_soak (va_up (va_up b 3 (p_stops w p g n b f)) 5 0) 5) 6), .int ((p_soak (va_up (va_up b 3 (p_stops w p g n b f)) 5 0) 5) 7), .int ((p_soak (va_up (va_up b 3 (p_stops w p g n b f)) 5 0) 5) 8), .int ((p_soak (va_up (va_up b 3 (p_stops w p g n b f)) 5 0) 5) 9), .int ((p_soak (va_up (va_up b 3 (p_stops w p g n b f)) 5 0) 5) 10), .int ((p_soak (va_up (va_up b 3 (p_stops w p g n b f)) 5 0) 5) 11)]) := hE13
      have hR : E11 1 = .inr (2, [.ref (ad 2), .ref (ad 3), .ref (ad 4), .int (nI n)]) := (hn12 1 (by omega)).trans hR
      have hRw : E11 2 = .inl (cI, 5, .inl w) := (hn12 2 (by omega)).trans hRw
      have hRp : E11 3 = .inl (cI, 6, .inl p) := (hn12 3 (by omega)).trans hRp
      have hRg : E11 4 = .inl (cI, 6, .inl g) := (hn12 4 (by omega)).trans hRg
      have hfr : ∀ q : Nat, q ≠ kb → E11 q = E q := fun q hq => (hn12 q (by omega)).trans (hfr q hq)
      refine lv_aload_n hx hb dX0_advance_94 rfl (lv_at hl 2 rfl) ?_
      refine lv_dup hx hb dX0_advance_95 rfl ?_
      refine f_get (ci := 0) (v := .int ((p_soak (va_up (va_up b 3 (p_stops w p g n b f)) 5 0) 5) 11)) (C := RX0) (T := TX0) (N := 12) hx hb hts (by decide +kernel) hown hG.1 hI ha hk hC rfl 11 (by decide) (hts (.fieldLink RX0 45 "CoracleRace$Boat" "stops" "I") (by decide +kernel)) rfl dX0_advance_96 ?_
      refine lv_iconst (v := 1) hx hb dX0_advance_99 (by decide) ?_
      refine lv_iadd hx hb dX0_advance_100 ?_
      refine f_put (ci := 0) (v := .int (((p_soak (va_up (va_up b 3 (p_stops w p g n b f)) 5 0) 5) 11) + 1)) (C := RX0) (T := TX0) (N := 12) hx hb hts (by decide +kernel) tyX0 tyX0_ok nmX0 hown hG.1 hI ha hk hC rfl 11 (by decide) (hts (.fieldLink RX0 45 "CoracleRace$Boat" "stops" "I") (by decide +kernel)) rfl rfl rfl (Nat.le_of_ble_eq_true rfl) dX0_advance_101 (fun E14 H locs hE15 hn16 hI => ?_)
      have hC : E14 kb = .inr (0, [.ref (ad (kb + 1)), .int ((p_soak (va_up (va_up b 3 (p_stops w p g n b f)) 5 0) 5) 1), .int ((p_soak (va_up (va_up b 3 (p_stops w p g n b f)) 5 0) 5) 2), .int ((p_soak (va_up (va_up b 3 (p_stops w p g n b f)) 5 0) 5) 3), .int ((p_soak (va_up (va_up b 3 (p_stops w p g n b f)) 5 0) 5) 4), .int ((p_soak (va_up (va_up b 3 (p_stops w p g n b f)) 5 0) 5) 5), .int ((p_soak (va_up (va_up b 3 (p_stops w p g n b f)) 5 0) 5) 6), .int ((p_soak (va_up (va_up b 3 (p_stops w p g n b f)) 5 0) 5) 7), .int ((p_soak (va_up (va_up b 3 (p_stops w p g n b f)) 5 0) 5) 8), .int ((p_soak (va_up (va_up b 3 (p_stops w p g n b f)) 5 0) 5) 9), .int ((p_soak (va_up (va_up b 3 (p_stops w p g n b f)) 5 0) 5) 10), .int (((p_soak (va_up (va_up b 3 (p_stops w p g n b f)) 5 0) 5) 11) + 1)]) := hE15
      have hR : E14 1 = .inr (2, [.ref (ad 2), .ref (ad 3), .ref (ad 4), .int (nI n)]) := (hn16 1 (by omega)).trans hR
      have hRw : E14 2 = .inl (cI, 5, .inl w) := (hn16 2 (by omega)).trans hRw
      have hRp : E14 3 = .inl (cI, 6, .inl p) := (hn16 3 (by omega)).trans hRp
      have hRg : E14 4 = .inl (cI, 6, .inl g) := (hn16 4 (by omega)).trans hRg
      have hfr : ∀ q : Nat, q ≠ kb → E14 q = E q := fun q hq => (hn16 q (by omega)).trans (hfr q hq)
      exact f_retv hQ hx hb hr hlocks hI.2.2 (by omega) (by omega) dX0_advance_104 E14 (fB_of hI) (⟨(hC).trans (by simp [p_adv, p_halt, p_soak, p_min, va_up, c_7, if_pos p_7, c_58]), hfr⟩)
    · refine lv_aload_n hx hb dX0_advance_61 rfl (lv_at hl 2 rfl) ?_
      refine lv_aload_n hx hb dX0_advance_62 rfl (lv_at hl 2 rfl) ?_
      refine f_get (ci := 0) (v := .int (b 3)) (C := RX0) (T := TX0) (N := 12) hx hb hts (by decide +kernel) hown hG.1 hI ha hk hC rfl 3 (by decide) (hts (.fieldLink RX0 20 "CoracleRace$Boat" "place" "I") (by decide +kernel)) rfl dX0_advance_63 ?_
      refine lv_iload_n hx hb dX0_advance_66 rfl (lv_at hl 1 rfl) ?_
      refine lv_iadd hx hb dX0_advance_67 ?_
      refine lv_sipush (v := 200) hx hb dX0_advance_68 (by decide) ?_
      refine va_mmin hx hb (hml.trans hl.1.symm) hown (hts (.methodLink RX0 108 Lib.Math.min.name) (by decide +kernel)) (hts (.static Lib.Math.min.name) (by decide +kernel)) (hts (.initialized "java/lang/Math") (by decide +kernel)) (hts (.code Lib.Math.min.name Lib.Math.min.code 2 (some .int)) (by decide +kernel)) (Nat.le_of_ble_eq_true rfl) (Nat.le_of_ble_eq_true rfl) (Nat.zero_le _) (Nat.zero_le _) dX0_advance_71 ?_
      refine lv_topi (fun tv etv => ?_)
      have etv : tv = p_min (b 3 + p_way w b f) 200 := etv.trans (rfl)
      subst etv
      refine f_put (ci := 0) (v := .int (p_min (b 3 + p_way w b f) 200)) (C := RX0) (T := TX0) (N := 12) hx hb hts (by decide +kernel) tyX0 tyX0_ok nmX0 hown hG.1 hI ha hk hC rfl 3 (by decide) (hts (.fieldLink RX0 20 "CoracleRace$Boat" "place" "I") (by decide +kernel)) rfl rfl rfl (Nat.le_of_ble_eq_true rfl) dX0_advance_74 (fun E17 H locs hE18 hn19 hI => ?_)
      have hC : E17 kb = .inr (0, [.ref (ad (kb + 1)), .int (b 1), .int (b 2), .int (p_min (b 3 + p_way w b f) 200), .int (b 4), .int (b 5), .int (b 6), .int (b 7), .int (b 8), .int (b 9), .int (b 10), .int (b 11)]) := hE18
      have hR : E17 1 = .inr (2, [.ref (ad 2), .ref (ad 3), .ref (ad 4), .int (nI n)]) := (hn19 1 (by omega)).trans hR
      have hRw : E17 2 = .inl (cI, 5, .inl w) := (hn19 2 (by omega)).trans hRw
      have hRp : E17 3 = .inl (cI, 6, .inl p) := (hn19 3 (by omega)).trans hRp
      have hRg : E17 4 = .inl (cI, 6, .inl g) := (hn19 4 (by omega)).trans hRg
      have hfr : ∀ q : Nat, q ≠ kb → E17 q = E q := fun q hq => (hn19 q (by omega)).trans (hfr q hq)
      exact f_retv hQ hx hb hr hlocks hI.2.2 (by omega) (by omega) dX0_advance_77 E17 (fB_of hI) (⟨(hC).trans (by simp [p_adv, p_halt, p_soak, p_min, va_up, c_7, if_pos p_7, c_58]), hfr⟩)
  · have p_7 := bl_f he0 c_7
    exact f_retv hQ hx hb hr hlocks hI.2.2 (by omega) (by omega) dX0_advance_10 E (fB_of hI) (⟨(hC).trans (by simp [p_adv, va_up, c_7, if_neg p_7]), hfr⟩)

set_option maxHeartbeats 4000000 in
set_option maxRecDepth 100000 in
theorem m_X0_isIn (l : Launch) {D : va_G} {cI cJ cB : ClassId} {t0 z : Nat} {tx ad : Nat → Nat} {L : List Nat} {E : Nat → va_E} {kb a : Nat} (ha : ad kb = a) (hk : kb ∈ L) {b : Nat → Int32} (hC : E kb = bE ad kb b) (h8 : b 8 = 0 ∨ b 8 = 1) : Met l yX0_isIn wsX0_isIn ({ frames := 0, cells := 0, slots := 0, locals := 0 } : Room) (va_Pc [.ref a] (fPre D cI cJ cB t0 z tx ad L E)) (va_Qi (fun (r : Int32) (E1 : Nat → va_E) => r = b 8 ∧ E1 = E) (fB D z ad L) (fA z)) 0 0 (fA z) := by
  refine f_ofW (cc := cX0_isIn) (maxL := 1) (ret := some .boolean) (by decide) rfl (Nat.le_of_ble_eq_true rfl) ?_
  intro pr e s m args below meth c Q hx hb hr hml hts hown hlocks hin hG H locs hI hQ ls hl
  have hl : lv_has ls 1 [(0, .ref a)] := hl
  have hC : E kb = .inr (0, [.ref (ad (kb + 1)), .int (b 1), .int (b 2), .int (b 3), .int (b 4), .int (b 5), .int (b 6), .int (b 7), .int (b 8), .int (b 9), .int (b 10), .int (b 11)]) := hC
  refine lv_aload_n hx hb dX0_isIn_0 rfl (lv_at hl 0 rfl) ?_
  refine f_get (ci := 0) (v := .int (b 8)) (C := RX0) (T := TX0) (N := 12) hx hb hts (by decide +kernel) hown hG.1 hI ha hk hC rfl 8 (by decide) (hts (.fieldLink RX0 35 "CoracleRace$Boat" "in" "Z") (by decide +kernel)) rfl dX0_isIn_1 ?_
  exact f_retz hQ hx hb hr hlocks hI.2.2 (by omega) (by omega) dX0_isIn_4 (bn_of h8) E (fB_of hI) (⟨rfl, rfl⟩)

set_option maxHeartbeats 4000000 in
set_option maxRecDepth 100000 in
theorem m_X0_time (l : Launch) {D : va_G} {cI cJ cB : ClassId} {t0 z : Nat} {tx ad : Nat → Nat} {L : List Nat} {E : Nat → va_E} {kb a : Nat} (ha : ad kb = a) (hk : kb ∈ L) {b : Nat → Int32} (hC : E kb = bE ad kb b) : Met l yX0_time wsX0_time ({ frames := 0, cells := 0, slots := 0, locals := 0 } : Room) (va_Pc [.ref a] (fPre D cI cJ cB t0 z tx ad L E)) (va_Qi (fun (r : Int32) (E1 : Nat → va_E) => r = p_time b ∧ E1 = E) (fB D z ad L) (fA z)) 0 0 (fA z) := by
  refine f_ofW (cc := cX0_time) (maxL := 1) (ret := some .int) (by decide) rfl (Nat.le_of_ble_eq_true rfl) ?_
  intro pr e s m args below meth c Q hx hb hr hml hts hown hlocks hin hG H locs hI hQ ls hl
  have hl : lv_has ls 1 [(0, .ref a)] := hl
  have hC : E kb = .inr (0, [.ref (ad (kb + 1)), .int (b 1), .int (b 2), .int (b 3), .int (b 4), .int (b 5), .int (b 6), .int (b 7), .int (b 8), .int (b 9), .int (b 10), .int (b 11)]) := hC
  refine lv_aload_n hx hb dX0_time_0 rfl (lv_at hl 0 rfl) ?_
  refine f_get (ci := 0) (v := .int (b 8)) (C := RX0) (T := TX0) (N := 12) hx hb hts (by decide +kernel) hown hG.1 hI ha hk hC rfl 8 (by decide) (hts (.fieldLink RX0 35 "CoracleRace$Boat" "in" "Z") (by decide +kernel)) rfl dX0_time_1 ?_
  refine lv_if_eq (tgt := 21) hx hb dX0_time_4 (by decide) (fun c_4 => ?_) (fun c_4 => ?_)
  · refine lv_iconst (v := -1) hx hb dX0_time_21 (by decide) ?_
    exact f_reti hQ hx hb hr hlocks hI.2.2 (by omega) (by omega) dX0_time_22 E (fB_of hI) (⟨by simp [p_time, c_4], rfl⟩)
  · refine lv_aload_n hx hb dX0_time_7 rfl (lv_at hl 0 rfl) ?_
    refine f_get (ci := 0) (v := .int (b 9)) (C := RX0) (T := TX0) (N := 12) hx hb hts (by decide +kernel) hown hG.1 hI ha hk hC rfl 9 (by decide) (hts (.fieldLink RX0 39 "CoracleRace$Boat" "tickIn" "I") (by decide +kernel)) rfl dX0_time_8 ?_
    refine lv_iconst (v := 1) hx hb dX0_time_11 (by decide) ?_
    refine lv_iadd hx hb dX0_time_12 ?_
    refine lv_aload_n hx hb dX0_time_13 rfl (lv_at hl 0 rfl) ?_
    refine f_get (ci := 0) (v := .int (b 7)) (C := RX0) (T := TX0) (N := 12) hx hb hts (by decide +kernel) hown hG.1 hI ha hk hC rfl 7 (by decide) (hts (.fieldLink RX0 32 "CoracleRace$Boat" "fouls" "I") (by decide +kernel)) rfl dX0_time_14 ?_
    refine lv_iadd hx hb dX0_time_17 ?_
    refine lv_goto (tgt := 22) hx hb dX0_time_18 (by decide) ?_
    exact f_reti hQ hx hb hr hlocks hI.2.2 (by omega) (by omega) dX0_time_22 E (fB_of hI) (⟨by simp [p_time, c_4], rfl⟩)

set_option maxHeartbeats 4000000 in
set_option maxRecDepth 100000 in
theorem m_X0_letTickGoBy (l : Launch) {D : va_G} {cI cJ cB : ClassId} {t0 z : Nat} {tx ad : Nat → Nat} {L : List Nat} {E : Nat → va_E} {kb a : Nat} (ha : ad kb = a) (hk : kb ∈ L) {b : Nat → Int32} (hC : E kb = bE ad kb b) {f : Nat → Int32} (hk1 : kb + 1 ∈ L) (hF : E (kb + 1) = .inl (cI, 6, .inl f)) (h10 : 10 ≤ kb) {w p g : Nat → Int32} {n : Nat} (hn : n ≤ 6) (hr1 : 1 ∈ L) (hr2 : 2 ∈ L) (hr3 : 3 ∈ L) (hr4 : 4 ∈ L) (hR : E 1 = rE ad n) (hRw : E 2 = .inl (cI, 5, .inl w)) (hRp : E 3 = .inl (cI, 6, .inl p)) (hRg : E 4 = .inl (cI, 6, .inl g)) (t : Int32) (ht : 0 ≤ t) : Met l yX0_letTickGoBy wsX0_letTickGoBy ({ frames := 3, cells := 0, slots := 0, locals := 59 } : Room) (va_Pc [.ref a, .ref (ad 1), .int t] (fPre D cI cJ cB t0 z tx ad L E)) (va_Qv (fun (E1 : Nat → va_E) => E1 kb = bE ad kb (p_tick w p g n t f b) ∧ ∀ q, q ≠ kb → E1 q = E q) (fB D z ad L) (fA z)) 0 0 (fA z) := by
  refine f_ofW (cc := cX0_letTickGoBy) (maxL := 4) (ret := none) (by decide) rfl (Nat.le_of_ble_eq_true rfl) ?_
  intro pr e s m args below meth c Q hx hb hr hml hts hown hlocks hin hG H locs hI hQ ls hl
  have hl : lv_has ls 4 [(0, .ref a), (1, .ref (ad 1)), (2, .int t)] := hl
  have hfr : ∀ q : Nat, q ≠ kb → E q = E q := fun _ _ => rfl
  have hC : E kb = .inr (0, [.ref (ad (kb + 1)), .int (b 1), .int (b 2), .int (b 3), .int (b 4), .int (b 5), .int (b 6), .int (b 7), .int (b 8), .int (b 9), .int (b 10), .int (b 11)]) := hC
  have hF : E (kb + 1) = .inl (cI, 6, .inl f) := hF
  have hR : E 1 = .inr (2, [.ref (ad 2), .ref (ad 3), .ref (ad 4), .int (nI n)]) := hR
  have hRw : E 2 = .inl (cI, 5, .inl w) := hRw
  have hRp : E 3 = .inl (cI, 6, .inl p) := hRp
  have hRg : E 4 = .inl (cI, 6, .inl g) := hRg
  refine lv_aload_n hx hb dX0_letTickGoBy_0 rfl (lv_at hl 0 rfl) ?_
  refine f_get (ci := 0) (v := .int (b 8)) (C := RX0) (T := TX0) (N := 12) hx hb hts (by decide +kernel) hown hG.1 hI ha hk hC rfl 8 (by decide) (hts (.fieldLink RX0 35 "CoracleRace$Boat" "in" "Z") (by decide +kernel)) rfl dX0_letTickGoBy_1 ?_
  refine lv_if_eq (tgt := 8) hx hb dX0_letTickGoBy_4 (by decide) (fun c_4 => ?_) (fun c_4 => ?_)
  · refine lv_aload_n hx hb dX0_letTickGoBy_8 rfl (lv_at hl 0 rfl) ?_
    refine lv_aload_n hx hb dX0_letTickGoBy_9 rfl (lv_at hl 0 rfl) ?_
    refine lv_iload_n hx hb dX0_letTickGoBy_10 rfl (lv_at hl 2 rfl) ?_
    refine f_calli1 (va_runV (As := [.int t]) (rest := [.ref a]) ⟨hx, hb, hml, hown, hts⟩ (m_X0_strokeIn l ha hk (b := b) hC hk1 hF t ht) (cwV 1 hts gX0_letTickGoBy_X0_strokeIn rfl rfl rfl (by decide +kernel) ⟨Nat.le_of_ble_eq_true rfl, Nat.le_of_ble_eq_true rfl⟩) (fPre_ofV hG hI ha hk hC rfl rfl) rfl rfl hl.1 rfl (lv_room (Nat.le_of_ble_eq_true rfl)) dX0_letTickGoBy_11 ⟨Nat.le_of_ble_eq_true rfl, Nat.le_of_ble_eq_true rfl⟩) hI (fun r1 E2 H locs hp hI => ?_)
    obtain ⟨he, hq⟩ := hp
    rw [hq] at hI
    have he : r1 = (p_stk b f t) := he
    subst he
    refine f_calli1 (va_runV (As := [.int (p_stk b f t)]) (rest := []) ⟨hx, hb, hml, hown, hts⟩ (m_X0_forceOf l ha hk (b := b) hC (p_stk b f t)) (cwV 1 hts gX0_letTickGoBy_X0_forceOf rfl rfl rfl (by decide +kernel) ⟨Nat.le_of_ble_eq_true rfl, Nat.le_of_ble_eq_true rfl⟩) (fPre_ofV hG hI ha hk hC rfl rfl) rfl rfl hl.1 rfl (lv_room (Nat.le_of_ble_eq_true rfl)) dX0_letTickGoBy_14 ⟨Nat.le_of_ble_eq_true rfl, Nat.le_of_ble_eq_true rfl⟩) hI (fun r3 E4 H locs hp hI => ?_)
    obtain ⟨he7, hE6, hn5⟩ := hp
    subst he7
    have hC : E4 kb = .inr (0, [.ref (ad (kb + 1)), .int ((p_turn b (p_stk b f t)) 1), .int ((p_turn b (p_stk b f t)) 2), .int ((p_turn b (p_stk b f t)) 3), .int ((p_turn b (p_stk b f t)) 4), .int ((p_turn b (p_stk b f t)) 5), .int ((p_turn b (p_stk b f t)) 6), .int ((p_turn b (p_stk b f t)) 7), .int ((p_turn b (p_stk b f t)) 8), .int ((p_turn b (p_stk b f t)) 9), .int ((p_turn b (p_stk b f t)) 10), .int ((p_turn b (p_stk b f t)) 11)]) := hE6
    have hF : E4 (kb + 1) = .inl (cI, 6, .inl f) := (hn5 (kb + 1) (by omega)).trans hF
    have hR : E4 1 = .inr (2, [.ref (ad 2), .ref (ad 3), .ref (ad 4), .int (nI n)]) := (hn5 1 (by omega)).trans hR
    have hRw : E4 2 = .inl (cI, 5, .inl w) := (hn5 2 (by omega)).trans hRw
    have hRp : E4 3 = .inl (cI, 6, .inl p) := (hn5 3 (by omega)).trans hRp
    have hRg : E4 4 = .inl (cI, 6, .inl g) := (hn5 4 (by omega)).trans hRg
    have hfr : ∀ q : Nat, q ≠ kb → E4 q = E q := fun q hq => (hn5 q (by omega)).trans (hfr q hq)
    refine lv_istore_n (lv' := [(3, .int (p_force b (p_stk b f t))), (0, .ref a), (1, .ref (ad 1)), (2, .int t)]) hx hb dX0_letTickGoBy_17 rfl hl (by decide) rfl (fun ls hl => ?_)
    refine lv_aload_n hx hb dX0_letTickGoBy_18 rfl (lv_at hl 1 rfl) ?_
    refine f_callv1 (va_runV (As := []) (rest := []) ⟨hx, hb, hml, hown, hts⟩ (m_X0_drift l ha hk (b := p_turn b (p_stk b f t)) hC) (cwV 0 hts gX0_letTickGoBy_X0_drift rfl rfl rfl (by decide +kernel) ⟨Nat.le_of_ble_eq_true rfl, Nat.le_of_ble_eq_true rfl⟩) (fPre_ofV hG hI ha hk hC rfl rfl) rfl rfl hl.1 rfl (lv_room (Nat.le_of_ble_eq_true rfl)) dX0_letTickGoBy_19 ⟨Nat.le_of_ble_eq_true rfl, Nat.le_of_ble_eq_true rfl⟩) hI (fun E8 H locs hp hI => ?_)
    obtain ⟨hE10, hn9⟩ := hp
    have hC : E8 kb = .inr (0, [.ref (ad (kb + 1)), .int ((p_drift (p_turn b (p_stk b f t))) 1), .int ((p_drift (p_turn b (p_stk b f t))) 2), .int ((p_drift (p_turn b (p_stk b f t))) 3), .int ((p_drift (p_turn b (p_stk b f t))) 4), .int ((p_drift (p_turn b (p_stk b f t))) 5), .int ((p_drift (p_turn b (p_stk b f t))) 6), .int ((p_drift (p_turn b (p_stk b f t))) 7), .int ((p_drift (p_turn b (p_stk b f t))) 8), .int ((p_drift (p_turn b (p_stk b f t))) 9), .int ((p_drift (p_turn b (p_stk b f t))) 10), .int ((p_drift (p_turn b (p_stk b f t))) 11)]) := hE10
    have hF : E8 (kb + 1) = .inl (cI, 6, .inl f) := (hn9 (kb + 1) (by omega)).trans hF
    have hR : E8 1 = .inr (2, [.ref (ad 2), .ref (ad 3), .ref (ad 4), .int (nI n)]) := (hn9 1 (by omega)).trans hR
    have hRw : E8 2 = .inl (cI, 5, .inl w) := (hn9 2 (by omega)).trans hRw
    have hRp : E8 3 = .inl (cI, 6, .inl p) := (hn9 3 (by omega)).trans hRp
    have hRg : E8 4 = .inl (cI, 6, .inl g) := (hn9 4 (by omega)).trans hRg
    have hfr : ∀ q : Nat, q ≠ kb → E8 q = E q := fun q hq => (hn9 q (by omega)).trans (hfr q hq)
    refine lv_aload_n hx hb dX0_letTickGoBy_22 rfl (lv_at hl 1 rfl) ?_
    refine lv_aload_n hx hb dX0_letTickGoBy_23 rfl (lv_at hl 2 rfl) ?_
    refine lv_iload_n hx hb dX0_letTickGoBy_24 rfl (lv_at hl 0 rfl) ?_
    refine f_callv1 (va_runV (As := [.ref (ad 1), .int (p_force b (p_stk b f t))]) (rest := []) ⟨hx, hb, hml, hown, hts⟩ (m_X0_advance l ha hk (b := p_drift (p_turn b (p_stk b f t))) hC h10 hn hr1 hr2 hr3 hr4 hR hRw hRp hRg (p_force b (p_stk b f t))) (cwV 2 hts gX0_letTickGoBy_X0_advance rfl rfl rfl (by decide +kernel) ⟨Nat.le_of_ble_eq_true rfl, Nat.le_of_ble_eq_true rfl⟩) (fPre_ofV hG hI ha hk hC rfl rfl) rfl rfl hl.1 rfl (lv_room (Nat.le_of_ble_eq_true rfl)) dX0_letTickGoBy_25 ⟨Nat.le_of_ble_eq_true rfl, Nat.le_of_ble_eq_true rfl⟩) hI (fun E12 H locs hp hI => ?_)
    obtain ⟨hE14, hn13⟩ := hp
    have hC : E12 kb = .inr (0, [.ref (ad (kb + 1)), .int ((p_adv w p g n (p_drift (p_turn b (p_stk b f t))) (p_force b (p_stk b f t))) 1), .int ((p_adv w p g n (p_drift (p_turn b (p_stk b f t))) (p_force b (p_stk b f t))) 2), .int ((p_adv w p g n (p_drift (p_turn b (p_stk b f t))) (p_force b (p_stk b f t))) 3), .int ((p_adv w p g n (p_drift (p_turn b (p_stk b f t))) (p_force b (p_stk b f t))) 4), .int ((p_adv w p g n (p_drift (p_turn b (p_stk b f t))) (p_force b (p_stk b f t))) 5), .int ((p_adv w p g n (p_drift (p_turn b (p_stk b f t))) (p_force b (p_stk b f t))) 6), .int ((p_adv w p g n (p_drift (p_turn b (p_stk b f t))) (p_force b (p_stk b f t))) 7), .int ((p_adv w p g n (p_drift (p_turn b (p_stk b f t))) (p_force b (p_stk b f t))) 8), .int ((p_adv w p g n (p_drift (p_turn b (p_stk b f t))) (p_force b (p_stk b f t))) 9), .int ((p_adv w p g n (p_drift (p_turn b (p_stk b f t))) (p_force b (p_stk b f t))) 10), .int ((p_adv w p g n (p_drift (p_turn b (p_stk b f t))) (p_force b (p_stk b f t))) 11)]) := hE14
    have hF : E12 (kb + 1) = .inl (cI, 6, .inl f) := (hn13 (kb + 1) (by omega)).trans hF
    have hR : E12 1 = .inr (2, [.ref (ad 2), .ref (ad 3), .ref (ad 4), .int (nI n)]) := (hn13 1 (by omega)).trans hR
    have hRw : E12 2 = .inl (cI, 5, .inl w) := (hn13 2 (by omega)).trans hRw
    have hRp : E12 3 = .inl (cI, 6, .inl p) := (hn13 3 (by omega)).trans hRp
    have hRg : E12 4 = .inl (cI, 6, .inl g) := (hn13 4 (by omega)).trans hRg
    have hfr : ∀ q : Nat, q ≠ kb → E12 q = E q := fun q hq => (hn13 q (by omega)).trans (hfr q hq)
    refine lv_iload_n hx hb dX0_letTickGoBy_28 rfl (lv_at hl 3 rfl) ?_
    refine lv_iconst (v := 4) hx hb dX0_letTickGoBy_29 (by decide) ?_
    refine lv_irem hx hb dX0_letTickGoBy_30 (by decide) ?_
    refine lv_topi (fun tv etv => ?_)
    have etv : tv = p_rem t 4 := etv.trans (rfl)
    subst etv
    refine lv_if_ne (tgt := 39) hx hb dX0_letTickGoBy_31 (by decide) (fun c_31 => ?_) (fun c_31 => ?_)
    · refine lv_aload_n hx hb dX0_letTickGoBy_39 rfl (lv_at hl 1 rfl) ?_
      refine f_get (ci := 0) (v := .int ((p_adv w p g n (p_drift (p_turn b (p_stk b f t))) (p_force b (p_stk b f t))) 3)) (C := RX0) (T := TX0) (N := 12) hx hb hts (by decide +kernel) hown hG.1 hI ha hk hC rfl 3 (by decide) (hts (.fieldLink RX0 20 "CoracleRace$Boat" "place" "I") (by decide +kernel)) rfl dX0_letTickGoBy_40 ?_
      refine lv_sipush (v := 200) hx hb dX0_letTickGoBy_43 (by decide) ?_
      refine lv_icmp_ne (tgt := 59) hx hb dX0_letTickGoBy_46 (by decide) (fun c_46 => ?_) (fun c_46 => ?_)
      · exact f_retv hQ hx hb hr hlocks hI.2.2 (by omega) (by omega) dX0_letTickGoBy_59 E12 (fB_of hI) (⟨(hC).trans (by simp [p_tick, p_tickK, p_wet, p_home, va_up, c_4, c_31, c_46]), hfr⟩)
      · refine lv_aload_n hx hb dX0_letTickGoBy_49 rfl (lv_at hl 1 rfl) ?_
        refine lv_iconst (v := 1) hx hb dX0_letTickGoBy_50 (by decide) ?_
        refine f_put (ci := 0) (v := .int 1) (C := RX0) (T := TX0) (N := 12) hx hb hts (by decide +kernel) tyX0 tyX0_ok nmX0 hown hG.1 hI ha hk hC rfl 8 (by decide) (hts (.fieldLink RX0 35 "CoracleRace$Boat" "in" "Z") (by decide +kernel)) rfl rfl rfl (Nat.le_of_ble_eq_true rfl) dX0_letTickGoBy_51 (fun E16 H locs hE17 hn18 hI => ?_)
        have hC : E16 kb = .inr (0, [.ref (ad (kb + 1)), .int ((p_adv w p g n (p_drift (p_turn b (p_stk b f t))) (p_force b (p_stk b f t))) 1), .int ((p_adv w p g n (p_drift (p_turn b (p_stk b f t))) (p_force b (p_stk b f t))) 2), .int ((p_adv w p g n (p_drift (p_turn b (p_stk b f t))) (p_force b (p_stk b f t))) 3), .int ((p_adv w p g n (p_drift (p_turn b (p_stk b f t))) (p_force b (p_stk b f t))) 4), .int ((p_adv w p g n (p_drift (p_turn b (p_stk b f t))) (p_force b (p_stk b f t))) 5), .int ((p_adv w p g n (p_drift (p_turn b (p_stk b f t))) (p_force b (p_stk b f t))) 6), .int ((p_adv w p g n (p_drift (p_turn b (p_stk b f t))) (p_force b (p_stk b f t))) 7), .int 1, .int ((p_adv w p g n (p_drift (p_turn b (p_stk b f t))) (p_force b (p_stk b f t))) 9), .int ((p_adv w p g n (p_drift (p_turn b (p_stk b f t))) (p_force b (p_stk b f t))) 10), .int ((p_adv w p g n (p_drift (p_turn b (p_stk b f t))) (p_force b (p_stk b f t))) 11)]) := hE17
        have hF : E16 (kb + 1) = .inl (cI, 6, .inl f) := (hn18 (kb + 1) (by omega)).trans hF
        have hR : E16 1 = .inr (2, [.ref (ad 2), .ref (ad 3), .ref (ad 4), .int (nI n)]) := (hn18 1 (by omega)).trans hR
        have hRw : E16 2 = .inl (cI, 5, .inl w) := (hn18 2 (by omega)).trans hRw
        have hRp : E16 3 = .inl (cI, 6, .inl p) := (hn18 3 (by omega)).trans hRp
        have hRg : E16 4 = .inl (cI, 6, .inl g) := (hn18 4 (by omega)).trans hRg
        have hfr : ∀ q : Nat, q ≠ kb → E16 q = E q := fun q hq => (hn18 q (by omega)).trans (hfr q hq)
        refine lv_aload_n hx hb dX0_letTickGoBy_54 rfl (lv_at hl 1 rfl) ?_
        refine lv_iload_n hx hb dX0_letTickGoBy_55 rfl (lv_at hl 3 rfl) ?_
        refine f_put (ci := 0) (v := .int t) (C := RX0) (T := TX0) (N := 12) hx hb hts (by decide +kernel) tyX0 tyX0_ok nmX0 hown hG.1 hI ha hk hC rfl 9 (by decide) (hts (.fieldLink RX0 39 "CoracleRace$Boat" "tickIn" "I") (by decide +kernel)) rfl rfl rfl (Nat.le_of_ble_eq_true rfl) dX0_letTickGoBy_56 (fun E19 H locs hE20 hn21 hI => ?_)
        have hC : E19 kb = .inr (0, [.ref (ad (kb + 1)), .int ((p_adv w p g n (p_drift (p_turn b (p_stk b f t))) (p_force b (p_stk b f t))) 1), .int ((p_adv w p g n (p_drift (p_turn b (p_stk b f t))) (p_force b (p_stk b f t))) 2), .int ((p_adv w p g n (p_drift (p_turn b (p_stk b f t))) (p_force b (p_stk b f t))) 3), .int ((p_adv w p g n (p_drift (p_turn b (p_stk b f t))) (p_force b (p_stk b f t))) 4), .int ((p_adv w p g n (p_drift (p_turn b (p_stk b f t))) (p_force b (p_stk b f t))) 5), .int ((p_adv w p g n (p_drift (p_turn b (p_stk b f t))) (p_force b (p_stk b f t))) 6), .int ((p_adv w p g n (p_drift (p_turn b (p_stk b f t))) (p_force b (p_stk b f t))) 7), .int 1, .int t, .int ((p_adv w p g n (p_drift (p_turn b (p_stk b f t))) (p_force b (p_stk b f t))) 10), .int ((p_adv w p g n (p_drift (p_turn b (p_stk b f t))) (p_force b (p_stk b f t))) 11)]) := hE20
        have hF : E19 (kb + 1) = .inl (cI, 6, .inl f) := (hn21 (kb + 1) (by omega)).trans hF
        have hR : E19 1 = .inr (2, [.ref (ad 2), .ref (ad 3), .ref (ad 4), .int (nI n)]) := (hn21 1 (by omega)).trans hR
        have hRw : E19 2 = .inl (cI, 5, .inl w) := (hn21 2 (by omega)).trans hRw
        have hRp : E19 3 = .inl (cI, 6, .inl p) := (hn21 3 (by omega)).trans hRp
        have hRg : E19 4 = .inl (cI, 6, .inl g) := (hn21 4 (by omega)).trans hRg
        have hfr : ∀ q : Nat, q ≠ kb → E19 q = E q := fun q hq => (hn21 q (by omega)).trans (hfr q hq)
        exact f_retv hQ hx hb hr hlocks hI.2.2 (by omega) (by omega) dX0_letTickGoBy_59 E19 (fB_of hI) (⟨(hC).trans (by simp [p_tick, p_tickK, p_wet, p_home, va_up, c_4, c_31, c_46]), hfr⟩)
    · refine lv_aload_n hx hb dX0_letTickGoBy_34 rfl (lv_at hl 1 rfl) ?_
      refine lv_iconst (v := 1) hx hb dX0_letTickGoBy_35 (by decide) ?_
      refine f_callv1 (va_runV (As := [.int 1]) (rest := []) ⟨hx, hb, hml, hown, hts⟩ (m_X0_soak l ha hk (b := p_adv w p g n (p_drift (p_turn b (p_stk b f t))) (p_force b (p_stk b f t))) hC 1) (cwV 1 hts gX0_letTickGoBy_X0_soak rfl rfl rfl (by decide +kernel) ⟨Nat.le_of_ble_eq_true rfl, Nat.le_of_ble_eq_true rfl⟩) (fPre_ofV hG hI ha hk hC rfl rfl) rfl rfl hl.1 rfl (lv_room (Nat.le_of_ble_eq_true rfl)) dX0_letTickGoBy_36 ⟨Nat.le_of_ble_eq_true rfl, Nat.le_of_ble_eq_true rfl⟩) hI (fun E22 H locs hp hI => ?_)
      obtain ⟨hE24, hn23⟩ := hp
      have hC : E22 kb = .inr (0, [.ref (ad (kb + 1)), .int ((p_soak (p_adv w p g n (p_drift (p_turn b (p_stk b f t))) (p_force b (p_stk b f t))) 1) 1), .int ((p_soak (p_adv w p g n (p_drift (p_turn b (p_stk b f t))) (p_force b (p_stk b f t))) 1) 2), .int ((p_soak (p_adv w p g n (p_drift (p_turn b (p_stk b f t))) (p_force b (p_stk b f t))) 1) 3), .int ((p_soak (p_adv w p g n (p_drift (p_turn b (p_stk b f t))) (p_force b (p_stk b f t))) 1) 4), .int ((p_soak (p_adv w p g n (p_drift (p_turn b (p_stk b f t))) (p_force b (p_stk b f t))) 1) 5), .int ((p_soak (p_adv w p g n (p_drift (p_turn b (p_stk b f t))) (p_force b (p_stk b f t))) 1) 6), .int ((p_soak (p_adv w p g n (p_drift (p_turn b (p_stk b f t))) (p_force b (p_stk b f t))) 1) 7), .int ((p_soak (p_adv w p g n (p_drift (p_turn b (p_stk b f t))) (p_force b (p_stk b f t))) 1) 8), .int ((p_soak (p_adv w p g n (p_drift (p_turn b (p_stk b f t))) (p_force b (p_stk b f t))) 1) 9), .int ((p_soak (p_adv w p g n (p_drift (p_turn b (p_stk b f t))) (p_force b (p_stk b f t))) 1) 10), .int ((p_soak (p_adv w p g n (p_drift (p_turn b (p_stk b f t))) (p_force b (p_stk b f t))) 1) 11)]) := hE24
      have hF : E22 (kb + 1) = .inl (cI, 6, .inl f) := (hn23 (kb + 1) (by omega)).trans hF
      have hR : E22 1 = .inr (2, [.ref (ad 2), .ref (ad 3), .ref (ad 4), .int (nI n)]) := (hn23 1 (by omega)).trans hR
      have hRw : E22 2 = .inl (cI, 5, .inl w) := (hn23 2 (by omega)).trans hRw
      have hRp : E22 3 = .inl (cI, 6, .inl p) := (hn23 3 (by omega)).trans hRp
      have hRg : E22 4 = .inl (cI, 6, .inl g) := (hn23 4 (by omega)).trans hRg
      have hfr : ∀ q : Nat, q ≠ kb → E22 q = E q := fun q hq => (hn23 q (by omega)).trans (hfr q hq)
      refine lv_aload_n hx hb dX0_letTickGoBy_39 rfl (lv_at hl 1 rfl) ?_
      refine f_get (ci := 0) (v := .int ((p_soak (p_adv w p g n (p_drift (p_turn b (p_stk b f t))) (p_force b (p_stk b f t))) 1) 3)) (C := RX0) (T := TX0) (N := 12) hx hb hts (by decide +kernel) hown hG.1 hI ha hk hC rfl 3 (by decide) (hts (.fieldLink RX0 20 "CoracleRace$Boat" "place" "I") (by decide +kernel)) rfl dX0_letTickGoBy_40 ?_
      refine lv_sipush (v := 200) hx hb dX0_letTickGoBy_43 (by decide) ?_
      refine lv_icmp_ne (tgt := 59) hx hb dX0_letTickGoBy_46 (by decide) (fun c_46 => ?_) (fun c_46 => ?_)
      · exact f_retv hQ hx hb hr hlocks hI.2.2 (by omega) (by omega) dX0_letTickGoBy_59 E22 (fB_of hI) (⟨(hC).trans (by simp [p_tick, p_tickK, p_wet, p_home, va_up, c_4, c_31, c_46]), hfr⟩)
      · refine lv_aload_n hx hb dX0_letTickGoBy_49 rfl (lv_at hl 1 rfl) ?_
        refine lv_iconst (v := 1) hx hb dX0_letTickGoBy_50 (by decide) ?_
        refine f_put (ci := 0) (v := .int 1) (C := RX0) (T := TX0) (N := 12) hx hb hts (by decide +kernel) tyX0 tyX0_ok nmX0 hown hG.1 hI ha hk hC rfl 8 (by decide) (hts (.fieldLink RX0 35 "CoracleRace$Boat" "in" "Z") (by decide +kernel)) rfl rfl rfl (Nat.le_of_ble_eq_true rfl) dX0_letTickGoBy_51 (fun E26 H locs hE27 hn28 hI => ?_)
        have hC : E26 kb = .inr (0, [.ref (ad (kb + 1)), .int ((p_soak (p_adv w p g n (p_drift (p_turn b (p_stk b f t))) (p_force b (p_stk b f t))) 1) 1), .int ((p_soak (p_adv w p g n (p_drift (p_turn b (p_stk b f t))) (p_force b (p_stk b f t))) 1) 2), .int ((p_soak (p_adv w p g n (p_drift (p_turn b (p_stk b f t))) (p_force b (p_stk b f t))) 1) 3), .int ((p_soak (p_adv w p g n (p_drift (p_turn b (p_stk b f t))) (p_force b (p_stk b f t))) 1) 4), .int ((p_soak (p_adv w p g n (p_drift (p_turn b (p_stk b f t))) (p_force b (p_stk b f t))) 1) 5), .int ((p_soak (p_adv w p g n (p_drift (p_turn b (p_stk b f t))) (p_force b (p_stk b f t))) 1) 6), .int ((p_soak (p_adv w p g n (p_drift (p_turn b (p_stk b f t))) (p_force b (p_stk b f t))) 1) 7), .int 1, .int ((p_soak (p_adv w p g n (p_drift (p_turn b (p_stk b f t))) (p_force b (p_stk b f t))) 1) 9), .int ((p_soak (p_adv w p g n (p_drift (p_turn b (p_stk b f t))) (p_force b (p_stk b f t))) 1) 10), .int ((p_soak (p_adv w p g n (p_drift (p_turn b (p_stk b f t))) (p_force b (p_stk b f t))) 1) 11)]) := hE27
        have hF : E26 (kb + 1) = .inl (cI, 6, .inl f) := (hn28 (kb + 1) (by omega)).trans hF
        have hR : E26 1 = .inr (2, [.ref (ad 2), .ref (ad 3), .ref (ad 4), .int (nI n)]) := (hn28 1 (by omega)).trans hR
        have hRw : E26 2 = .inl (cI, 5, .inl w) := (hn28 2 (by omega)).trans hRw
        have hRp : E26 3 = .inl (cI, 6, .inl p) := (hn28 3 (by omega)).trans hRp
        have hRg : E26 4 = .inl (cI, 6, .inl g) := (hn28 4 (by omega)).trans hRg
        have hfr : ∀ q : Nat, q ≠ kb → E26 q = E q := fun q hq => (hn28 q (by omega)).trans (hfr q hq)
        refine lv_aload_n hx hb dX0_letTickGoBy_54 rfl (lv_at hl 1 rfl) ?_
        refine lv_iload_n hx hb dX0_letTickGoBy_55 rfl (lv_at hl 3 rfl) ?_
        refine f_put (ci := 0) (v := .int t) (C := RX0) (T := TX0) (N := 12) hx hb hts (by decide +kernel) tyX0 tyX0_ok nmX0 hown hG.1 hI ha hk hC rfl 9 (by decide) (hts (.fieldLink RX0 39 "CoracleRace$Boat" "tickIn" "I") (by decide +kernel)) rfl rfl rfl (Nat.le_of_ble_eq_true rfl) dX0_letTickGoBy_56 (fun E29 H locs hE30 hn31 hI => ?_)
        have hC : E29 kb = .inr (0, [.ref (ad (kb + 1)), .int ((p_soak (p_adv w p g n (p_drift (p_turn b (p_stk b f t))) (p_force b (p_stk b f t))) 1) 1), .int ((p_soak (p_adv w p g n (p_drift (p_turn b (p_stk b f t))) (p_force b (p_stk b f t))) 1) 2), .int ((p_soak (p_adv w p g n (p_drift (p_turn b (p_stk b f t))) (p_force b (p_stk b f t))) 1) 3), .int ((p_soak (p_adv w p g n (p_drift (p_turn b (p_stk b f t))) (p_force b (p_stk b f t))) 1) 4), .int ((p_soak (p_adv w p g n (p_drift (p_turn b (p_stk b f t))) (p_force b (p_stk b f t))) 1) 5), .int ((p_soak (p_adv w p g n (p_drift (p_turn b (p_stk b f t))) (p_force b (p_stk b f t))) 1) 6), .int ((p_soak (p_adv w p g n (p_drift (p_turn b (p_stk b f t))) (p_force b (p_stk b f t))) 1) 7), .int 1, .int t, .int ((p_soak (p_adv w p g n (p_drift (p_turn b (p_stk b f t))) (p_force b (p_stk b f t))) 1) 10), .int ((p_soak (p_adv w p g n (p_drift (p_turn b (p_stk b f t))) (p_force b (p_stk b f t))) 1) 11)]) := hE30
        have hF : E29 (kb + 1) = .inl (cI, 6, .inl f) := (hn31 (kb + 1) (by omega)).trans hF
        have hR : E29 1 = .inr (2, [.ref (ad 2), .ref (ad 3), .ref (ad 4), .int (nI n)]) := (hn31 1 (by omega)).trans hR
        have hRw : E29 2 = .inl (cI, 5, .inl w) := (hn31 2 (by omega)).trans hRw
        have hRp : E29 3 = .inl (cI, 6, .inl p) := (hn31 3 (by omega)).trans hRp
        have hRg : E29 4 = .inl (cI, 6, .inl g) := (hn31 4 (by omega)).trans hRg
        have hfr : ∀ q : Nat, q ≠ kb → E29 q = E q := fun q hq => (hn31 q (by omega)).trans (hfr q hq)
        exact f_retv hQ hx hb hr hlocks hI.2.2 (by omega) (by omega) dX0_letTickGoBy_59 E29 (fB_of hI) (⟨(hC).trans (by simp [p_tick, p_tickK, p_wet, p_home, va_up, c_4, c_31, c_46]), hfr⟩)
  · exact f_retv hQ hx hb hr hlocks hI.2.2 (by omega) (by omega) dX0_letTickGoBy_7 E (fB_of hI) (⟨(hC).trans (by simp [p_tick, p_tickK, p_wet, p_home, va_up, c_4]), hfr⟩)

set_option maxHeartbeats 4000000 in
set_option maxRecDepth 100000 in
theorem m_X0_dryOut (l : Launch) {D : va_G} {cI cJ cB : ClassId} {t0 z : Nat} {tx ad : Nat → Nat} {L : List Nat} {E : Nat → va_E} {kb a : Nat} (ha : ad kb = a) (hk : kb ∈ L) {b : Nat → Int32} (hC : E kb = bE ad kb b) : Met l yX0_dryOut wsX0_dryOut ({ frames := 0, cells := 0, slots := 0, locals := 0 } : Room) (va_Pc [.ref a] (fPre D cI cJ cB t0 z tx ad L E)) (va_Qi (fun (r : Int32) (E1 : Nat → va_E) => r = b 6 ∧ E1 kb = bE ad kb (va_up (va_up b 6 0) 7 (b 7 + 4)) ∧ ∀ q, q ≠ kb → E1 q = E q) (fB D z ad L) (fA z)) 0 0 (fA z) := by
  refine f_ofW (cc := cX0_dryOut) (maxL := 2) (ret := some .int) (by decide) rfl (Nat.le_of_ble_eq_true rfl) ?_
  intro pr e s m args below meth c Q hx hb hr hml hts hown hlocks hin hG H locs hI hQ ls hl
  have hl : lv_has ls 2 [(0, .ref a)] := hl
  have hfr : ∀ q : Nat, q ≠ kb → E q = E q := fun _ _ => rfl
  have hC : E kb = .inr (0, [.ref (ad (kb + 1)), .int (b 1), .int (b 2), .int (b 3), .int (b 4), .int (b 5), .int (b 6), .int (b 7), .int (b 8), .int (b 9), .int (b 10), .int (b 11)]) := hC
  refine lv_aload_n hx hb dX0_dryOut_0 rfl (lv_at hl 0 rfl) ?_
  refine f_get (ci := 0) (v := .int (b 6)) (C := RX0) (T := TX0) (N := 12) hx hb hts (by decide +kernel) hown hG.1 hI ha hk hC rfl 6 (by decide) (hts (.fieldLink RX0 29 "CoracleRace$Boat" "soaked" "I") (by decide +kernel)) rfl dX0_dryOut_1 ?_
  refine lv_istore_n (lv' := [(1, .int (b 6)), (0, .ref a)]) hx hb dX0_dryOut_4 rfl hl (by decide) rfl (fun ls hl => ?_)
  refine lv_aload_n hx hb dX0_dryOut_5 rfl (lv_at hl 1 rfl) ?_
  refine lv_iconst (v := 0) hx hb dX0_dryOut_6 (by decide) ?_
  refine f_put (ci := 0) (v := .int 0) (C := RX0) (T := TX0) (N := 12) hx hb hts (by decide +kernel) tyX0 tyX0_ok nmX0 hown hG.1 hI ha hk hC rfl 6 (by decide) (hts (.fieldLink RX0 29 "CoracleRace$Boat" "soaked" "I") (by decide +kernel)) rfl rfl rfl (Nat.le_of_ble_eq_true rfl) dX0_dryOut_7 (fun E1 H locs hE2 hn3 hI => ?_)
  have hC : E1 kb = .inr (0, [.ref (ad (kb + 1)), .int (b 1), .int (b 2), .int (b 3), .int (b 4), .int (b 5), .int 0, .int (b 7), .int (b 8), .int (b 9), .int (b 10), .int (b 11)]) := hE2
  have hfr : ∀ q : Nat, q ≠ kb → E1 q = E q := fun q hq => (hn3 q (by omega)).trans (hfr q hq)
  refine lv_aload_n hx hb dX0_dryOut_10 rfl (lv_at hl 1 rfl) ?_
  refine lv_dup hx hb dX0_dryOut_11 rfl ?_
  refine f_get (ci := 0) (v := .int (b 7)) (C := RX0) (T := TX0) (N := 12) hx hb hts (by decide +kernel) hown hG.1 hI ha hk hC rfl 7 (by decide) (hts (.fieldLink RX0 32 "CoracleRace$Boat" "fouls" "I") (by decide +kernel)) rfl dX0_dryOut_12 ?_
  refine lv_iconst (v := 4) hx hb dX0_dryOut_15 (by decide) ?_
  refine lv_iadd hx hb dX0_dryOut_16 ?_
  refine f_put (ci := 0) (v := .int ((b 7) + 4)) (C := RX0) (T := TX0) (N := 12) hx hb hts (by decide +kernel) tyX0 tyX0_ok nmX0 hown hG.1 hI ha hk hC rfl 7 (by decide) (hts (.fieldLink RX0 32 "CoracleRace$Boat" "fouls" "I") (by decide +kernel)) rfl rfl rfl (Nat.le_of_ble_eq_true rfl) dX0_dryOut_17 (fun E4 H locs hE5 hn6 hI => ?_)
  have hC : E4 kb = .inr (0, [.ref (ad (kb + 1)), .int (b 1), .int (b 2), .int (b 3), .int (b 4), .int (b 5), .int 0, .int ((b 7) + 4), .int (b 8), .int (b 9), .int (b 10), .int (b 11)]) := hE5
  have hfr : ∀ q : Nat, q ≠ kb → E4 q = E q := fun q hq => (hn6 q (by omega)).trans (hfr q hq)
  refine lv_iload_n hx hb dX0_dryOut_20 rfl (lv_at hl 0 rfl) ?_
  exact f_reti hQ hx hb hr hlocks hI.2.2 (by omega) (by omega) dX0_dryOut_21 E4 (fB_of hI) (⟨rfl, (hC).trans (by simp [va_up]), hfr⟩)

set_option maxHeartbeats 4000000 in
set_option maxRecDepth 100000 in
theorem m_X0_isAheadOf (l : Launch) {D : va_G} {cI cJ cB : ClassId} {t0 z : Nat} {tx ad : Nat → Nat} {L : List Nat} {E : Nat → va_E} {kb a : Nat} (ha : ad kb = a) (hk : kb ∈ L) {b : Nat → Int32} (hC : E kb = bE ad kb b) {ko ao : Nat} (hao : ad ko = ao) (hko : ko ∈ L) {o : Nat → Int32} (hO : E ko = bE ad ko o) : Met l yX0_isAheadOf wsX0_isAheadOf ({ frames := 1, cells := 0, slots := 0, locals := 20 } : Room) (va_Pc [.ref a, .ref ao] (fPre D cI cJ cB t0 z tx ad L E)) (va_Qi (fun (r : Int32) (E1 : Nat → va_E) => r = p_ahead b o ∧ E1 = E) (fB D z ad L) (fA z)) 0 0 (fA z) := by
  refine f_ofW (cc := cX0_isAheadOf) (maxL := 2) (ret := some .boolean) (by decide) rfl (Nat.le_of_ble_eq_true rfl) ?_
  intro pr e s m args below meth c Q hx hb hr hml hts hown hlocks hin hG H locs hI hQ ls hl
  have hl : lv_has ls 2 [(0, .ref a), (1, .ref ao)] := hl
  have hC : E kb = .inr (0, [.ref (ad (kb + 1)), .int (b 1), .int (b 2), .int (b 3), .int (b 4), .int (b 5), .int (b 6), .int (b 7), .int (b 8), .int (b 9), .int (b 10), .int (b 11)]) := hC
  have hO : E ko = .inr (0, [.ref (ad (ko + 1)), .int (o 1), .int (o 2), .int (o 3), .int (o 4), .int (o 5), .int (o 6), .int (o 7), .int (o 8), .int (o 9), .int (o 10), .int (o 11)]) := hO
  refine lv_aload_n hx hb dX0_isAheadOf_0 rfl (lv_at hl 0 rfl) ?_
  refine f_get (ci := 0) (v := .int (b 8)) (C := RX0) (T := TX0) (N := 12) hx hb hts (by decide +kernel) hown hG.1 hI ha hk hC rfl 8 (by decide) (hts (.fieldLink RX0 35 "CoracleRace$Boat" "in" "Z") (by decide +kernel)) rfl dX0_isAheadOf_1 ?_
  refine lv_if_eq (tgt := 31) hx hb dX0_isAheadOf_4 (by decide) (fun c_4 => ?_) (fun c_4 => ?_)
  · refine lv_aload_n hx hb dX0_isAheadOf_31 rfl (lv_at hl 1 rfl) ?_
    refine f_get (ci := 0) (v := .int (o 8)) (C := RX0) (T := TX0) (N := 12) hx hb hts (by decide +kernel) hown hG.1 hI hao hko hO rfl 8 (by decide) (hts (.fieldLink RX0 35 "CoracleRace$Boat" "in" "Z") (by decide +kernel)) rfl dX0_isAheadOf_32 ?_
    refine lv_if_ne (tgt := 53) hx hb dX0_isAheadOf_35 (by decide) (fun c_35 => ?_) (fun c_35 => ?_)
    · refine lv_iconst (v := 0) hx hb dX0_isAheadOf_53 (by decide) ?_
      exact f_retz hQ hx hb hr hlocks hI.2.2 (by omega) (by omega) dX0_isAheadOf_54 rfl E (fB_of hI) (⟨by simp [p_ahead, c_4, c_35], rfl⟩)
    · refine lv_aload_n hx hb dX0_isAheadOf_38 rfl (lv_at hl 0 rfl) ?_
      refine f_get (ci := 0) (v := .int (b 3)) (C := RX0) (T := TX0) (N := 12) hx hb hts (by decide +kernel) hown hG.1 hI ha hk hC rfl 3 (by decide) (hts (.fieldLink RX0 20 "CoracleRace$Boat" "place" "I") (by decide +kernel)) rfl dX0_isAheadOf_39 ?_
      refine lv_aload_n hx hb dX0_isAheadOf_42 rfl (lv_at hl 1 rfl) ?_
      refine f_get (ci := 0) (v := .int (o 3)) (C := RX0) (T := TX0) (N := 12) hx hb hts (by decide +kernel) hown hG.1 hI hao hko hO rfl 3 (by decide) (hts (.fieldLink RX0 20 "CoracleRace$Boat" "place" "I") (by decide +kernel)) rfl dX0_isAheadOf_43 ?_
      refine lv_icmp_le (tgt := 53) hx hb dX0_isAheadOf_46 (by decide) (fun c_46 => ?_) (fun c_46 => ?_)
      · have n_46 := i_nlt.mpr c_46
        refine lv_iconst (v := 0) hx hb dX0_isAheadOf_53 (by decide) ?_
        exact f_retz hQ hx hb hr hlocks hI.2.2 (by omega) (by omega) dX0_isAheadOf_54 rfl E (fB_of hI) (⟨by simp [p_ahead, c_4, c_35, c_46, n_46], rfl⟩)
      · have n_46 := c_46
        have c_46 := i_nle.mp n_46
        refine lv_iconst (v := 1) hx hb dX0_isAheadOf_49 (by decide) ?_
        refine lv_goto (tgt := 54) hx hb dX0_isAheadOf_50 (by decide) ?_
        exact f_retz hQ hx hb hr hlocks hI.2.2 (by omega) (by omega) dX0_isAheadOf_54 rfl E (fB_of hI) (⟨by simp [p_ahead, c_4, c_35, c_46, n_46], rfl⟩)
  · refine lv_aload_n hx hb dX0_isAheadOf_7 rfl (lv_at hl 1 rfl) ?_
    refine f_get (ci := 0) (v := .int (o 8)) (C := RX0) (T := TX0) (N := 12) hx hb hts (by decide +kernel) hown hG.1 hI hao hko hO rfl 8 (by decide) (hts (.fieldLink RX0 35 "CoracleRace$Boat" "in" "Z") (by decide +kernel)) rfl dX0_isAheadOf_8 ?_
    refine lv_if_eq (tgt := 25) hx hb dX0_isAheadOf_11 (by decide) (fun c_11 => ?_) (fun c_11 => ?_)
    · refine lv_iconst (v := 1) hx hb dX0_isAheadOf_25 (by decide) ?_
      refine lv_goto (tgt := 30) hx hb dX0_isAheadOf_26 (by decide) ?_
      exact f_retz hQ hx hb hr hlocks hI.2.2 (by omega) (by omega) dX0_isAheadOf_30 rfl E (fB_of hI) (⟨by simp [p_ahead, c_4, c_11], rfl⟩)
    · refine lv_aload_n hx hb dX0_isAheadOf_14 rfl (lv_at hl 0 rfl) ?_
      refine f_calli1 (va_runV (As := []) (rest := []) ⟨hx, hb, hml, hown, hts⟩ (m_X0_time l ha hk (b := b) hC) (cwV 0 hts gX0_isAheadOf_X0_time rfl rfl rfl (by decide +kernel) ⟨Nat.le_of_ble_eq_true rfl, Nat.le_of_ble_eq_true rfl⟩) (fPre_ofV hG hI ha hk hC rfl rfl) rfl rfl hl.1 rfl (lv_room (Nat.le_of_ble_eq_true rfl)) dX0_isAheadOf_15 ⟨Nat.le_of_ble_eq_true rfl, Nat.le_of_ble_eq_true rfl⟩) hI (fun r1 E2 H locs hp hI => ?_)
      obtain ⟨he, hq⟩ := hp
      rw [hq] at hI
      have he : r1 = (p_time b) := he
      subst he
      refine lv_aload_n hx hb dX0_isAheadOf_18 rfl (lv_at hl 1 rfl) ?_
      refine f_calli1 (va_runV (As := []) (rest := [.int (p_time b)]) ⟨hx, hb, hml, hown, hts⟩ (m_X0_time l hao hko (b := o) hO) (cwV 0 hts gX0_isAheadOf_X0_time rfl rfl rfl (by decide +kernel) ⟨Nat.le_of_ble_eq_true rfl, Nat.le_of_ble_eq_true rfl⟩) (fPre_ofV hG hI hao hko hO rfl rfl) rfl rfl hl.1 rfl (lv_room (Nat.le_of_ble_eq_true rfl)) dX0_isAheadOf_19 ⟨Nat.le_of_ble_eq_true rfl, Nat.le_of_ble_eq_true rfl⟩) hI (fun r3 E4 H locs hp hI => ?_)
      obtain ⟨he, hq⟩ := hp
      rw [hq] at hI
      have he : r3 = (p_time o) := he
      subst he
      refine lv_icmp_ge (tgt := 29) hx hb dX0_isAheadOf_22 (by decide) (fun c_22 => ?_) (fun c_22 => ?_)
      · have n_22 := i_nlt.mpr c_22
        refine lv_iconst (v := 0) hx hb dX0_isAheadOf_29 (by decide) ?_
        exact f_retz hQ hx hb hr hlocks hI.2.2 (by omega) (by omega) dX0_isAheadOf_30 rfl E (fB_of hI) (⟨by simp [p_ahead, c_4, c_11, c_22, n_22], rfl⟩)
      · have n_22 := c_22
        have c_22 := i_nle.mp n_22
        refine lv_iconst (v := 1) hx hb dX0_isAheadOf_25 (by decide) ?_
        refine lv_goto (tgt := 30) hx hb dX0_isAheadOf_26 (by decide) ?_
        exact f_retz hQ hx hb hr hlocks hI.2.2 (by omega) (by omega) dX0_isAheadOf_30 rfl E (fB_of hI) (⟨by simp [p_ahead, c_4, c_11, c_22, n_22], rfl⟩)

set_option maxHeartbeats 4000000 in
set_option maxRecDepth 100000 in
theorem m_X0_fact (l : Launch) {D : va_G} {cI cJ cB : ClassId} {t0 z : Nat} {tx ad : Nat → Nat} {L : List Nat} {E : Nat → va_E} {kb a : Nat} (ha : ad kb = a) (hk : kb ∈ L) {b : Nat → Int32} (hC : E kb = bE ad kb b) (v : Nat) (hv : v ≤ 8) : Met l yX0_fact wsX0_fact ({ frames := 1, cells := 0, slots := 0, locals := 20 } : Room) (va_Pc [.ref a, .int (nI v)] (fPre D cI cJ cB t0 z tx ad L E)) (va_Qi (fun (r : Int32) (E1 : Nat → va_E) => r = p_fact b v ∧ E1 = E) (fB D z ad L) (fA z)) 0 0 (fA z) := by
  refine f_ofW (cc := cX0_fact) (maxL := 2) (ret := some .int) (by decide) rfl (Nat.le_of_ble_eq_true rfl) ?_
  intro pr e s m args below meth c Q hx hb hr hml hts hown hlocks hin hG H locs hI hQ ls hl
  have hl : lv_has ls 2 [(0, .ref a), (1, .int (nI v))] := hl
  have hC : E kb = .inr (0, [.ref (ad (kb + 1)), .int (b 1), .int (b 2), .int (b 3), .int (b 4), .int (b 5), .int (b 6), .int (b 7), .int (b 8), .int (b 9), .int (b 10), .int (b 11)]) := hC
  refine lv_iload_n hx hb dX0_fact_0 rfl (lv_at hl 1 rfl) ?_
  rcases (show v = 0 ∨ v = 1 ∨ v = 2 ∨ v = 3 ∨ v = 4 ∨ v = 5 ∨ v = 6 ∨ v = 7 ∨ v = 8 by omega) with rfl | rfl | rfl | rfl | rfl | rfl | rfl | rfl | rfl
  · refine lv_tableIn (tgt := 48) hx hb dX0_fact_1 (by decide) (by decide) rfl (by decide) ?_
    refine lv_aload_n hx hb dX0_fact_48 rfl (lv_at hl 0 rfl) ?_
    refine f_get (ci := 0) (v := .int (b 3)) (C := RX0) (T := TX0) (N := 12) hx hb hts (by decide +kernel) hown hG.1 hI ha hk hC rfl 3 (by decide) (hts (.fieldLink RX0 20 "CoracleRace$Boat" "place" "I") (by decide +kernel)) rfl dX0_fact_49 ?_
    exact f_reti hQ hx hb hr hlocks hI.2.2 (by omega) (by omega) dX0_fact_52 E (fB_of hI) (⟨by simp [p_fact, ], rfl⟩)
  · refine lv_tableIn (tgt := 53) hx hb dX0_fact_1 (by decide) (by decide) rfl (by decide) ?_
    refine lv_aload_n hx hb dX0_fact_53 rfl (lv_at hl 0 rfl) ?_
    refine f_get (ci := 0) (v := .int (b 4)) (C := RX0) (T := TX0) (N := 12) hx hb hts (by decide +kernel) hown hG.1 hI ha hk hC rfl 4 (by decide) (hts (.fieldLink RX0 23 "CoracleRace$Boat" "lane" "I") (by decide +kernel)) rfl dX0_fact_54 ?_
    exact f_reti hQ hx hb hr hlocks hI.2.2 (by omega) (by omega) dX0_fact_57 E (fB_of hI) (⟨by simp [p_fact, ], rfl⟩)
  · refine lv_tableIn (tgt := 58) hx hb dX0_fact_1 (by decide) (by decide) rfl (by decide) ?_
    refine lv_aload_n hx hb dX0_fact_58 rfl (lv_at hl 0 rfl) ?_
    refine f_get (ci := 0) (v := .int (b 5)) (C := RX0) (T := TX0) (N := 12) hx hb hts (by decide +kernel) hown hG.1 hI ha hk hC rfl 5 (by decide) (hts (.fieldLink RX0 26 "CoracleRace$Boat" "heading" "I") (by decide +kernel)) rfl dX0_fact_59 ?_
    exact f_reti hQ hx hb hr hlocks hI.2.2 (by omega) (by omega) dX0_fact_62 E (fB_of hI) (⟨by simp [p_fact, ], rfl⟩)
  · refine lv_tableIn (tgt := 63) hx hb dX0_fact_1 (by decide) (by decide) rfl (by decide) ?_
    refine lv_aload_n hx hb dX0_fact_63 rfl (lv_at hl 0 rfl) ?_
    refine f_get (ci := 0) (v := .int (b 6)) (C := RX0) (T := TX0) (N := 12) hx hb hts (by decide +kernel) hown hG.1 hI ha hk hC rfl 6 (by decide) (hts (.fieldLink RX0 29 "CoracleRace$Boat" "soaked" "I") (by decide +kernel)) rfl dX0_fact_64 ?_
    exact f_reti hQ hx hb hr hlocks hI.2.2 (by omega) (by omega) dX0_fact_67 E (fB_of hI) (⟨by simp [p_fact, ], rfl⟩)
  · refine lv_tableIn (tgt := 68) hx hb dX0_fact_1 (by decide) (by decide) rfl (by decide) ?_
    refine lv_aload_n hx hb dX0_fact_68 rfl (lv_at hl 0 rfl) ?_
    refine f_get (ci := 0) (v := .int (b 7)) (C := RX0) (T := TX0) (N := 12) hx hb hts (by decide +kernel) hown hG.1 hI ha hk hC rfl 7 (by decide) (hts (.fieldLink RX0 32 "CoracleRace$Boat" "fouls" "I") (by decide +kernel)) rfl dX0_fact_69 ?_
    exact f_reti hQ hx hb hr hlocks hI.2.2 (by omega) (by omega) dX0_fact_72 E (fB_of hI) (⟨by simp [p_fact, ], rfl⟩)
  · refine lv_tableIn (tgt := 73) hx hb dX0_fact_1 (by decide) (by decide) rfl (by decide) ?_
    refine lv_aload_n hx hb dX0_fact_73 rfl (lv_at hl 0 rfl) ?_
    refine f_get (ci := 0) (v := .int (b 8)) (C := RX0) (T := TX0) (N := 12) hx hb hts (by decide +kernel) hown hG.1 hI ha hk hC rfl 8 (by decide) (hts (.fieldLink RX0 35 "CoracleRace$Boat" "in" "Z") (by decide +kernel)) rfl dX0_fact_74 ?_
    refine lv_if_eq (tgt := 84) hx hb dX0_fact_77 (by decide) (fun c_77 => ?_) (fun c_77 => ?_)
    · refine lv_iconst (v := 0) hx hb dX0_fact_84 (by decide) ?_
      exact f_reti hQ hx hb hr hlocks hI.2.2 (by omega) (by omega) dX0_fact_85 E (fB_of hI) (⟨by simp [p_fact, c_77], rfl⟩)
    · refine lv_iconst (v := 1) hx hb dX0_fact_80 (by decide) ?_
      refine lv_goto (tgt := 85) hx hb dX0_fact_81 (by decide) ?_
      exact f_reti hQ hx hb hr hlocks hI.2.2 (by omega) (by omega) dX0_fact_85 E (fB_of hI) (⟨by simp [p_fact, c_77], rfl⟩)
  · refine lv_tableIn (tgt := 86) hx hb dX0_fact_1 (by decide) (by decide) rfl (by decide) ?_
    refine lv_aload_n hx hb dX0_fact_86 rfl (lv_at hl 0 rfl) ?_
    refine f_calli1 (va_runV (As := []) (rest := []) ⟨hx, hb, hml, hown, hts⟩ (m_X0_time l ha hk (b := b) hC) (cwV 0 hts gX0_fact_X0_time rfl rfl rfl (by decide +kernel) ⟨Nat.le_of_ble_eq_true rfl, Nat.le_of_ble_eq_true rfl⟩) (fPre_ofV hG hI ha hk hC rfl rfl) rfl rfl hl.1 rfl (lv_room (Nat.le_of_ble_eq_true rfl)) dX0_fact_87 ⟨Nat.le_of_ble_eq_true rfl, Nat.le_of_ble_eq_true rfl⟩) hI (fun r1 E2 H locs hp hI => ?_)
    obtain ⟨he, hq⟩ := hp
    rw [hq] at hI
    have he : r1 = (p_time b) := he
    subst he
    exact f_reti hQ hx hb hr hlocks hI.2.2 (by omega) (by omega) dX0_fact_90 E (fB_of hI) (⟨by simp [p_fact, ], rfl⟩)
  · refine lv_tableIn (tgt := 91) hx hb dX0_fact_1 (by decide) (by decide) rfl (by decide) ?_
    refine lv_aload_n hx hb dX0_fact_91 rfl (lv_at hl 0 rfl) ?_
    refine f_get (ci := 0) (v := .int (b 10)) (C := RX0) (T := TX0) (N := 12) hx hb hts (by decide +kernel) hown hG.1 hI ha hk hC rfl 10 (by decide) (hts (.fieldLink RX0 42 "CoracleRace$Boat" "spins" "I") (by decide +kernel)) rfl dX0_fact_92 ?_
    exact f_reti hQ hx hb hr hlocks hI.2.2 (by omega) (by omega) dX0_fact_95 E (fB_of hI) (⟨by simp [p_fact, ], rfl⟩)
  · refine lv_tableOut (tgt := 96) hx hb dX0_fact_1 (by decide) (by decide) ?_
    refine lv_aload_n hx hb dX0_fact_96 rfl (lv_at hl 0 rfl) ?_
    refine f_get (ci := 0) (v := .int (b 11)) (C := RX0) (T := TX0) (N := 12) hx hb hts (by decide +kernel) hown hG.1 hI ha hk hC rfl 11 (by decide) (hts (.fieldLink RX0 45 "CoracleRace$Boat" "stops" "I") (by decide +kernel)) rfl dX0_fact_97 ?_
    exact f_reti hQ hx hb hr hlocks hI.2.2 (by omega) (by omega) dX0_fact_100 E (fB_of hI) (⟨by simp [p_fact, ], rfl⟩)

set_option maxHeartbeats 4000000 in
set_option maxRecDepth 100000 in
theorem m_X0_takePattern (l : Launch) {D : va_G} {cI cJ cB : ClassId} {t0 z : Nat} {tx ad : Nat → Nat} {L : List Nat} {E : Nat → va_E} {kb a : Nat} (ha : ad kb = a) (hk : kb ∈ L) {b : Nat → Int32} (hC : E kb = bE ad kb b) {f : Nat → Int32} (hk1 : kb + 1 ∈ L) (hF : E (kb + 1) = .inl (cI, 6, .inl f)) {len : Nat} (h1 : 1 ≤ len) (h6 : len ≤ 6) (d : Int32) : Met l yX0_takePattern wsX0_takePattern ({ frames := 0, cells := 0, slots := 0, locals := 0 } : Room) (va_Pc [.ref a, .int (nI len), .int d] (fPre D cI cJ cB t0 z tx ad L E)) (va_Qv (fun (E1 : Nat → va_E) => E1 kb = bE ad kb (va_up b 1 (nI len)) ∧ E1 (kb + 1) = .inl (cI, 6, .inl (p_row f len d)) ∧ ∀ q, q ≠ kb ∧ q ≠ kb + 1 → E1 q = E q) (fB D z ad L) (fA z)) 0 0 (fA z) := by
  refine f_ofW (cc := cX0_takePattern) (maxL := 5) (ret := none) (by decide) rfl (Nat.le_of_ble_eq_true rfl) ?_
  intro pr e s m args below meth c Q hx hb hr hml hts hown hlocks hin hG H locs hI hQ ls hl
  have hl : lv_has ls 5 [(0, .ref a), (1, .int (nI len)), (2, .int d)] := hl
  have hfr : ∀ q : Nat, q ≠ kb ∧ q ≠ kb + 1 → E q = E q := fun _ _ => rfl
  have hC : E kb = .inr (0, [.ref (ad (kb + 1)), .int (b 1), .int (b 2), .int (b 3), .int (b 4), .int (b 5), .int (b 6), .int (b 7), .int (b 8), .int (b 9), .int (b 10), .int (b 11)]) := hC
  have hF : E (kb + 1) = .inl (cI, 6, .inl f) := hF
  refine lv_iload_n hx hb dX0_takePattern_0 rfl (lv_at hl 1 rfl) ?_
  refine lv_iconst (v := 1) hx hb dX0_takePattern_1 (by decide) ?_
  refine lv_icmp_lt (tgt := 11) hx hb dX0_takePattern_2 (by decide) (fun c_2 => ?_) (fun c_2 => ?_)
  · exact absurd ((nI_ltI (by omega) (by omega) (a := len) (b := 1)).mp c_2) (by omega)
  · have n_2 := c_2
    have c_2 := i_nlt.mp n_2
    refine lv_iload_n hx hb dX0_takePattern_5 rfl (lv_at hl 1 rfl) ?_
    refine lv_bipush (v := 6) hx hb dX0_takePattern_6 (by decide) ?_
    refine lv_icmp_le (tgt := 12) hx hb dX0_takePattern_8 (by decide) (fun c_8 => ?_) (fun c_8 => ?_)
    · have n_8 := i_nlt.mpr c_8
      refine lv_iload_n hx hb dX0_takePattern_12 rfl (lv_at hl 2 rfl) ?_
      refine lv_istore_n (lv' := [(3, .int d), (0, .ref a), (1, .int (nI len)), (2, .int d)]) hx hb dX0_takePattern_13 rfl hl (by decide) rfl (fun ls hl => ?_)
      refine lv_iload_n hx hb dX0_takePattern_14 rfl (lv_at hl 2 rfl) ?_
      refine lv_iconst (v := 1) hx hb dX0_takePattern_15 (by decide) ?_
      refine lv_isub hx hb dX0_takePattern_16 ?_
      refine lv_istore (lv' := [(4, .int ((nI len) - 1)), (3, .int d), (0, .ref a), (1, .int (nI len)), (2, .int d)]) hx hb dX0_takePattern_17 hl (by decide) rfl (fun ls hl => ?_)
      have K : ∀ (j : Nat), j ≤ len → ∀ (E1 : Nat → va_E) (H : Heap) (locs : List Loc) (ls : Array Slot), E1 kb = bE ad kb b → E1 (kb + 1) = .inl (cI, 6, .inl (p_rowK f len d j)) → (∀ q : Nat, q ≠ kb ∧ q ≠ kb + 1 → E1 q = E q) → fI D (fA z) s.heap ad L E1 H locs → lv_has ls 5 [(0, .ref a), (1, .int (nI len)), (3, .int (p_shr d (len - j))), (4, .int (p_pre j))] → W pr l e ({ frames := 0, cells := 0, slots := 0, locals := 0 } : Room) s m args below meth c H locs 0 0 Q (F0 m 19 ls []) := by
        intro j
        induction j with
        | zero =>
          intro hj E1 H locs ls hC hF hfr hI hl
          have hC : E1 kb = .inr (0, [.ref (ad (kb + 1)), .int (b 1), .int (b 2), .int (b 3), .int (b 4), .int (b 5), .int (b 6), .int (b 7), .int (b 8), .int (b 9), .int (b 10), .int (b 11)]) := hC
          refine lv_iload hx hb dX0_takePattern_19 (lv_at hl 3 rfl) ?_
          refine lv_if_lt (tgt := 46) hx hb dX0_takePattern_21 (by decide) (fun c_21 => ?_) (fun c_21 => ?_)
          · have n_21 := i_nle.mpr c_21
            refine lv_aload_n hx hb dX0_takePattern_46 rfl (lv_at hl 0 rfl) ?_
            refine lv_iload_n hx hb dX0_takePattern_47 rfl (lv_at hl 1 rfl) ?_
            refine f_put (ci := 0) (v := .int (nI len)) (C := RX0) (T := TX0) (N := 12) hx hb hts (by decide +kernel) tyX0 tyX0_ok nmX0 hown hG.1 hI ha hk hC rfl 1 (by decide) (hts (.fieldLink RX0 13 "CoracleRace$Boat" "length" "I") (by decide +kernel)) rfl rfl rfl (Nat.le_of_ble_eq_true rfl) dX0_takePattern_48 (fun E1 H locs hE2 hn3 hI => ?_)
            have hC : E1 kb = .inr (0, [.ref (ad (kb + 1)), .int (nI len), .int (b 2), .int (b 3), .int (b 4), .int (b 5), .int (b 6), .int (b 7), .int (b 8), .int (b 9), .int (b 10), .int (b 11)]) := hE2
            have hF : E1 (kb + 1) = .inl (cI, 6, .inl (p_rowK f len d 0)) := (hn3 (kb + 1) (by omega)).trans hF
            have hfr : ∀ q : Nat, q ≠ kb ∧ q ≠ kb + 1 → E1 q = E q := fun q hq => (hn3 q (by omega)).trans (hfr q hq)
            exact f_retv hQ hx hb hr hlocks hI.2.2 (by omega) (by omega) dX0_takePattern_51 E1 (fB_of hI) (⟨(hC).trans (by simp [va_up]), by rw [← p_rowK_0]; exact hF, hfr⟩)
          · exact absurd c_21 (by decide)
        | succ j ih =>
          intro hj E1 H locs ls hC hF hfr hI hl
          have hC : E1 kb = .inr (0, [.ref (ad (kb + 1)), .int (b 1), .int (b 2), .int (b 3), .int (b 4), .int (b 5), .int (b 6), .int (b 7), .int (b 8), .int (b 9), .int (b 10), .int (b 11)]) := hC
          refine lv_iload hx hb dX0_takePattern_19 (lv_at hl 3 rfl) ?_
          refine lv_if_lt (tgt := 46) hx hb dX0_takePattern_21 (by decide) (fun c_21 => ?_) (fun c_21 => ?_)
          · exact absurd c_21 (nI_pos (by omega))
          · have n_21 := c_21
            have c_21 := i_nlt.mp n_21
            refine lv_aload_n hx hb dX0_takePattern_24 rfl (lv_at hl 0 rfl) ?_
            refine f_get (ci := 0) (v := .ref (ad (kb + 1))) (C := RX0) (T := TX0) (N := 12) hx hb hts (by decide +kernel) hown hG.1 hI ha hk hC rfl 0 (by decide) (hts (.fieldLink RX0 9 "CoracleRace$Boat" "strokes" "[I") (by decide +kernel)) rfl dX0_takePattern_25 ?_
            refine lv_iload hx hb dX0_takePattern_28 (lv_at hl 3 rfl) ?_
            refine lv_iload_n hx hb dX0_takePattern_30 rfl (lv_at hl 2 rfl) ?_
            refine lv_bipush (v := 10) hx hb dX0_takePattern_31 (by decide) ?_
            refine lv_irem hx hb dX0_takePattern_33 (by decide) ?_
            refine lv_topi (fun tv etv => ?_)
            have etv : tv = p_rem (p_shr d (len - (j + 1))) 10 := etv.trans (rfl)
            subst etv
            refine f_iast hx hb hG.1 hI rfl hk1 hF (vp_in_nI (by omega) (by omega)) dX0_takePattern_34 (fun E4 H locs hE5 hn6 hI => ?_)
            have hF : E4 (kb + 1) = .inl (cI, 6, .inl (upd (p_rowK f len d (j + 1)) j (p_rem (p_shr d (len - (j + 1))) 10))) := (by rw [show (p_pre (j + 1)).toNatClampNeg = j from nI_clamp (by omega)] at hE5; exact hE5)
            have hC : E4 kb = .inr (0, [.ref (ad (kb + 1)), .int (b 1), .int (b 2), .int (b 3), .int (b 4), .int (b 5), .int (b 6), .int (b 7), .int (b 8), .int (b 9), .int (b 10), .int (b 11)]) := (hn6 kb (by omega)).trans hC
            have hfr : ∀ q : Nat, q ≠ kb ∧ q ≠ kb + 1 → E4 q = E q := fun q hq => (hn6 q (by omega)).trans (hfr q hq)
            refine lv_iload_n hx hb dX0_takePattern_35 rfl (lv_at hl 2 rfl) ?_
            refine lv_bipush (v := 10) hx hb dX0_takePattern_36 (by decide) ?_
            refine lv_idiv hx hb dX0_takePattern_38 (by decide) ?_
            refine lv_istore_n (lv' := [(3, .int ((p_shr d (len - (j + 1))) / 10)), (0, .ref a), (1, .int (nI len)), (4, .int (nI j))]) hx hb dX0_takePattern_39 rfl hl (by decide) rfl (fun ls hl => ?_)
            refine lv_iinc (v := (nI j) + (-1)) (lv' := [(4, .int ((nI j) + (-1))), (3, .int ((p_shr d (len - (j + 1))) / 10)), (0, .ref a), (1, .int (nI len))]) hx hb dX0_takePattern_40 hl (k := 3) rfl rfl (by decide) rfl (fun ls hl => ?_)
            refine lv_goto (tgt := 19) hx hb dX0_takePattern_43 (by decide) ?_
            refine ih (by omega) E4 H locs ls hC (by rw [← p_rowK_step (by omega)]; exact hF) hfr hI ?_
            have e3 : p_shr d (len - (j + 1)) / 10 = p_shr d (len - j) := by rw [show len - j = (len - (j + 1)) + 1 by omega]; rfl
            rw [e3, p_pre_m] at hl
            exact lv_sub hl [2, 3, 1, 0] rfl
      obtain ⟨m1, rfl⟩ : ∃ m1, len = m1 + 1 := ⟨len - 1, by omega⟩
      refine K (m1 + 1) (Nat.le_refl _) E H locs ls hC (by rw [p_rowK_top]; exact hF) (fun _ _ => rfl) hI ?_
      rw [Nat.sub_self]
      have e4 : nI (m1 + 1) - 1 = p_pre (m1 + 1) := nI_pred m1
      rw [e4] at hl
      exact lv_sub hl [2, 3, 1, 0] rfl
    · exact absurd ((nI_leI (by omega) (by omega) (a := len) (b := 6)).mpr h6) c_8
end
section
set_option maxHeartbeats 4000000 in
set_option maxRecDepth 100000 in
theorem m_X0_start (l : Launch) {D : va_G} {cI cJ cB : ClassId} {t0 z : Nat} {tx ad : Nat → Nat} {L : List Nat} {E : Nat → va_E} {kb a : Nat} (ha : ad kb = a) (hk : kb ∈ L) {b : Nat → Int32} (hC : E kb = bE ad kb b) {f : Nat → Int32} (hk1 : kb + 1 ∈ L) (hF : E (kb + 1) = .inl (cI, 6, .inl f)) (lane st : Int32) : Met l yX0_start wsX0_start ({ frames := 1, cells := 0, slots := 0, locals := 24 } : Room) (va_Pc [.ref a, .int lane, .int st] (fPre D cI cJ cB t0 z tx ad L E)) (va_Qv (fun (E1 : Nat → va_E) => E1 kb = bE ad kb (va_up (va_up (va_up b 4 lane) 2 st) 1 1) ∧ E1 (kb + 1) = .inl (cI, 6, .inl (p_row f 1 3)) ∧ ∀ q, q ≠ kb ∧ q ≠ kb + 1 → E1 q = E q) (fB D z ad L) (fA z)) 0 0 (fA z) := by
  refine f_ofW (cc := cX0_start) (maxL := 3) (ret := none) (by decide) rfl (Nat.le_of_ble_eq_true rfl) ?_
  intro pr e s m args below meth c Q hx hb hr hml hts hown hlocks hin hG H locs hI hQ ls hl
  have hl : lv_has ls 3 [(0, .ref a), (1, .int lane), (2, .int st)] := hl
  have hfr : ∀ q : Nat, q ≠ kb ∧ q ≠ kb + 1 → E q = E q := fun _ _ => rfl
  have hC : E kb = .inr (0, [.ref (ad (kb + 1)), .int (b 1), .int (b 2), .int (b 3), .int (b 4), .int (b 5), .int (b 6), .int (b 7), .int (b 8), .int (b 9), .int (b 10), .int (b 11)]) := hC
  have hF : E (kb + 1) = .inl (cI, 6, .inl f) := hF
  refine lv_aload_n hx hb dX0_start_0 rfl (lv_at hl 0 rfl) ?_
  refine lv_iload_n hx hb dX0_start_1 rfl (lv_at hl 1 rfl) ?_
  refine f_put (ci := 0) (v := .int lane) (C := RX0) (T := TX0) (N := 12) hx hb hts (by decide +kernel) tyX0 tyX0_ok nmX0 hown hG.1 hI ha hk hC rfl 4 (by decide) (hts (.fieldLink RX0 23 "CoracleRace$Boat" "lane" "I") (by decide +kernel)) rfl rfl rfl (Nat.le_of_ble_eq_true rfl) dX0_start_2 (fun E1 H locs hE2 hn3 hI => ?_)
  have hC : E1 kb = .inr (0, [.ref (ad (kb + 1)), .int (b 1), .int (b 2), .int (b 3), .int lane, .int (b 5), .int (b 6), .int (b 7), .int (b 8), .int (b 9), .int (b 10), .int (b 11)]) := hE2
  have hF : E1 (kb + 1) = .inl (cI, 6, .inl f) := (hn3 (kb + 1) (by omega)).trans hF
  have hfr : ∀ q : Nat, q ≠ kb ∧ q ≠ kb + 1 → E1 q = E q := fun q hq => (hn3 q (by omega)).trans (hfr q hq)
  refine lv_aload_n hx hb dX0_start_5 rfl (lv_at hl 0 rfl) ?_
  refine lv_iload_n hx hb dX0_start_6 rfl (lv_at hl 2 rfl) ?_
  refine f_put (ci := 0) (v := .int st) (C := RX0) (T := TX0) (N := 12) hx hb hts (by decide +kernel) tyX0 tyX0_ok nmX0 hown hG.1 hI ha hk hC rfl 2 (by decide) (hts (.fieldLink RX0 17 "CoracleRace$Boat" "strength" "I") (by decide +kernel)) rfl rfl rfl (Nat.le_of_ble_eq_true rfl) dX0_start_7 (fun E4 H locs hE5 hn6 hI => ?_)
  have hC : E4 kb = .inr (0, [.ref (ad (kb + 1)), .int (b 1), .int st, .int (b 3), .int lane, .int (b 5), .int (b 6), .int (b 7), .int (b 8), .int (b 9), .int (b 10), .int (b 11)]) := hE5
  have hF : E4 (kb + 1) = .inl (cI, 6, .inl f) := (hn6 (kb + 1) (by omega)).trans hF
  have hfr : ∀ q : Nat, q ≠ kb ∧ q ≠ kb + 1 → E4 q = E q := fun q hq => (hn6 q (by omega)).trans (hfr q hq)
  refine lv_aload_n hx hb dX0_start_10 rfl (lv_at hl 0 rfl) ?_
  refine lv_iconst (v := 1) hx hb dX0_start_11 (by decide) ?_
  refine lv_iconst (v := 3) hx hb dX0_start_12 (by decide) ?_
  refine f_callv1 (va_runV (As := [.int 1, .int 3]) (rest := []) ⟨hx, hb, hml, hown, hts⟩ (m_X0_takePattern l ha hk (b := va_up (va_up b 4 lane) 2 st) hC hk1 hF (len := 1) (by decide) (by decide) 3) (cwV 2 hts gX0_start_X0_takePattern rfl rfl rfl (by decide +kernel) ⟨Nat.le_of_ble_eq_true rfl, Nat.le_of_ble_eq_true rfl⟩) (fPre_ofV hG hI ha hk hC rfl rfl) rfl rfl hl.1 rfl (lv_room (Nat.le_of_ble_eq_true rfl)) dX0_start_13 ⟨Nat.le_of_ble_eq_true rfl, Nat.le_of_ble_eq_true rfl⟩) hI (fun E7 H locs hp hI => ?_)
  obtain ⟨hE9, hF9, hn9⟩ := hp
  exact f_retv hQ hx hb hr hlocks hI.2.2 (by omega) (by omega) dX0_start_16 E7 (fB_of hI) (⟨hE9, hF9, fun q hq => (hn9 q hq).trans (hfr q hq)⟩)

set_option maxHeartbeats 4000000 in
set_option maxRecDepth 100000 in
theorem m_X0_copyFrom (l : Launch) {D : va_G} {cI cJ cB : ClassId} {t0 z : Nat} {tx ad : Nat → Nat} {L : List Nat} {E : Nat → va_E} {kb a : Nat} (ha : ad kb = a) (hk : kb ∈ L) {b : Nat → Int32} (hC : E kb = bE ad kb b) {f : Nat → Int32} (hk1 : kb + 1 ∈ L) (hF : E (kb + 1) = .inl (cI, 6, .inl f)) {ko ao : Nat} (hao : ad ko = ao) (hko : ko ∈ L) {o : Nat → Int32} (hO : E ko = bE ad ko o) {fo : Nat → Int32} (hko1 : ko + 1 ∈ L) (hOF : E (ko + 1) = .inl (cI, 6, .inl fo)) (hd : kb + 2 ≤ ko ∨ ko + 2 ≤ kb) (h8 : o 8 = 0 ∨ o 8 = 1) : Met l yX0_copyFrom wsX0_copyFrom ({ frames := 1, cells := 0, slots := 0, locals := 40 } : Room) (va_Pc [.ref a, .ref ao] (fPre D cI cJ cB t0 z tx ad L E)) (va_Qv (fun (E1 : Nat → va_E) => E1 kb = bE ad kb o ∧ E1 (kb + 1) = .inl (cI, 6, .inl fo) ∧ ∀ q, q ≠ kb ∧ q ≠ kb + 1 → E1 q = E q) (fB D z ad L) (fA z)) 0 0 (fA z) := by
  refine f_ofW (cc := cX0_copyFrom) (maxL := 2) (ret := none) (by decide) rfl (Nat.le_of_ble_eq_true rfl) ?_
  intro pr e s m args below meth c Q hx hb hr hml hts hown hlocks hin hG H locs hI hQ ls hl
  have hl : lv_has ls 2 [(0, .ref a), (1, .ref ao)] := hl
  have hfr : ∀ q : Nat, q ≠ kb ∧ q ≠ kb + 1 → E q = E q := fun _ _ => rfl
  have hC : E kb = .inr (0, [.ref (ad (kb + 1)), .int (b 1), .int (b 2), .int (b 3), .int (b 4), .int (b 5), .int (b 6), .int (b 7), .int (b 8), .int (b 9), .int (b 10), .int (b 11)]) := hC
  have hF : E (kb + 1) = .inl (cI, 6, .inl f) := hF
  have hO : E ko = .inr (0, [.ref (ad (ko + 1)), .int (o 1), .int (o 2), .int (o 3), .int (o 4), .int (o 5), .int (o 6), .int (o 7), .int (o 8), .int (o 9), .int (o 10), .int (o 11)]) := hO
  have hOF : E (ko + 1) = .inl (cI, 6, .inl fo) := hOF
  refine lv_aload_n hx hb dX0_copyFrom_0 rfl (lv_at hl 1 rfl) ?_
  refine f_get (ci := 0) (v := .ref (ad (ko + 1))) (C := RX0) (T := TX0) (N := 12) hx hb hts (by decide +kernel) hown hG.1 hI hao hko hO rfl 0 (by decide) (hts (.fieldLink RX0 9 "CoracleRace$Boat" "strokes" "[I") (by decide +kernel)) rfl dX0_copyFrom_1 ?_
  refine lv_iconst (v := 0) hx hb dX0_copyFrom_4 (by decide) ?_
  refine lv_aload_n hx hb dX0_copyFrom_5 rfl (lv_at hl 0 rfl) ?_
  refine f_get (ci := 0) (v := .ref (ad (kb + 1))) (C := RX0) (T := TX0) (N := 12) hx hb hts (by decide +kernel) hown hG.1 hI ha hk hC rfl 0 (by decide) (hts (.fieldLink RX0 9 "CoracleRace$Boat" "strokes" "[I") (by decide +kernel)) rfl dX0_copyFrom_6 ?_
  refine lv_iconst (v := 0) hx hb dX0_copyFrom_9 (by decide) ?_
  refine lv_bipush (v := 6) hx hb dX0_copyFrom_10 (by decide) ?_
  refine f_copyA hx hb (hml.trans hl.1.symm) hown (hts (.methodLink RX0 52 arraycopyName) (by decide +kernel)) (hts (.native arraycopyName) (by decide +kernel)) (hts (.static arraycopyName) (by decide +kernel)) (hts (.initialized "java/lang/System") (by decide +kernel)) hG.1 hI rfl rfl hko1 hk1 hOF hF (by decide) (by decide) (Nat.le_of_ble_eq_true rfl) (Nat.le_of_ble_eq_true rfl) dX0_copyFrom_12 (fun E1 H locs hE2 hn3 hI => ?_)
  have hF : E1 (kb + 1) = .inl (cI, 6, .inl fo) := hE2
  have hC : E1 kb = .inr (0, [.ref (ad (kb + 1)), .int (b 1), .int (b 2), .int (b 3), .int (b 4), .int (b 5), .int (b 6), .int (b 7), .int (b 8), .int (b 9), .int (b 10), .int (b 11)]) := (hn3 kb (by omega)).trans hC
  have hO : E1 ko = .inr (0, [.ref (ad (ko + 1)), .int (o 1), .int (o 2), .int (o 3), .int (o 4), .int (o 5), .int (o 6), .int (o 7), .int (o 8), .int (o 9), .int (o 10), .int (o 11)]) := (hn3 ko (by omega)).trans hO
  have hOF : E1 (ko + 1) = .inl (cI, 6, .inl fo) := (hn3 (ko + 1) (by omega)).trans hOF
  have hfr : ∀ q : Nat, q ≠ kb ∧ q ≠ kb + 1 → E1 q = E q := fun q hq => (hn3 q (by omega)).trans (hfr q hq)
  refine lv_aload_n hx hb dX0_copyFrom_15 rfl (lv_at hl 0 rfl) ?_
  refine lv_aload_n hx hb dX0_copyFrom_16 rfl (lv_at hl 1 rfl) ?_
  refine f_get (ci := 0) (v := .int (o 1)) (C := RX0) (T := TX0) (N := 12) hx hb hts (by decide +kernel) hown hG.1 hI hao hko hO rfl 1 (by decide) (hts (.fieldLink RX0 13 "CoracleRace$Boat" "length" "I") (by decide +kernel)) rfl dX0_copyFrom_17 ?_
  refine f_put (ci := 0) (v := .int (o 1)) (C := RX0) (T := TX0) (N := 12) hx hb hts (by decide +kernel) tyX0 tyX0_ok nmX0 hown hG.1 hI ha hk hC rfl 1 (by decide) (hts (.fieldLink RX0 13 "CoracleRace$Boat" "length" "I") (by decide +kernel)) rfl rfl rfl (Nat.le_of_ble_eq_true rfl) dX0_copyFrom_20 (fun E4 H locs hE5 hn6 hI => ?_)
  have hC : E4 kb = .inr (0, [.ref (ad (kb + 1)), .int (o 1), .int (b 2), .int (b 3), .int (b 4), .int (b 5), .int (b 6), .int (b 7), .int (b 8), .int (b 9), .int (b 10), .int (b 11)]) := hE5
  have hF : E4 (kb + 1) = .inl (cI, 6, .inl fo) := (hn6 (kb + 1) (by omega)).trans hF
  have hO : E4 ko = .inr (0, [.ref (ad (ko + 1)), .int (o 1), .int (o 2), .int (o 3), .int (o 4), .int (o 5), .int (o 6), .int (o 7), .int (o 8), .int (o 9), .int (o 10), .int (o 11)]) := (hn6 ko (by omega)).trans hO
  have hOF : E4 (ko + 1) = .inl (cI, 6, .inl fo) := (hn6 (ko + 1) (by omega)).trans hOF
  have hfr : ∀ q : Nat, q ≠ kb ∧ q ≠ kb + 1 → E4 q = E q := fun q hq => (hn6 q (by omega)).trans (hfr q hq)
  refine lv_aload_n hx hb dX0_copyFrom_23 rfl (lv_at hl 0 rfl) ?_
  refine lv_aload_n hx hb dX0_copyFrom_24 rfl (lv_at hl 1 rfl) ?_
  refine f_get (ci := 0) (v := .int (o 2)) (C := RX0) (T := TX0) (N := 12) hx hb hts (by decide +kernel) hown hG.1 hI hao hko hO rfl 2 (by decide) (hts (.fieldLink RX0 17 "CoracleRace$Boat" "strength" "I") (by decide +kernel)) rfl dX0_copyFrom_25 ?_
  refine f_put (ci := 0) (v := .int (o 2)) (C := RX0) (T := TX0) (N := 12) hx hb hts (by decide +kernel) tyX0 tyX0_ok nmX0 hown hG.1 hI ha hk hC rfl 2 (by decide) (hts (.fieldLink RX0 17 "CoracleRace$Boat" "strength" "I") (by decide +kernel)) rfl rfl rfl (Nat.le_of_ble_eq_true rfl) dX0_copyFrom_28 (fun E7 H locs hE8 hn9 hI => ?_)
  have hC : E7 kb = .inr (0, [.ref (ad (kb + 1)), .int (o 1), .int (o 2), .int (b 3), .int (b 4), .int (b 5), .int (b 6), .int (b 7), .int (b 8), .int (b 9), .int (b 10), .int (b 11)]) := hE8
  have hF : E7 (kb + 1) = .inl (cI, 6, .inl fo) := (hn9 (kb + 1) (by omega)).trans hF
  have hO : E7 ko = .inr (0, [.ref (ad (ko + 1)), .int (o 1), .int (o 2), .int (o 3), .int (o 4), .int (o 5), .int (o 6), .int (o 7), .int (o 8), .int (o 9), .int (o 10), .int (o 11)]) := (hn9 ko (by omega)).trans hO
  have hOF : E7 (ko + 1) = .inl (cI, 6, .inl fo) := (hn9 (ko + 1) (by omega)).trans hOF
  have hfr : ∀ q : Nat, q ≠ kb ∧ q ≠ kb + 1 → E7 q = E q := fun q hq => (hn9 q (by omega)).trans (hfr q hq)
  refine lv_aload_n hx hb dX0_copyFrom_31 rfl (lv_at hl 0 rfl) ?_
  refine lv_aload_n hx hb dX0_copyFrom_32 rfl (lv_at hl 1 rfl) ?_
  refine f_get (ci := 0) (v := .int (o 3)) (C := RX0) (T := TX0) (N := 12) hx hb hts (by decide +kernel) hown hG.1 hI hao hko hO rfl 3 (by decide) (hts (.fieldLink RX0 20 "CoracleRace$Boat" "place" "I") (by decide +kernel)) rfl dX0_copyFrom_33 ?_
  refine f_put (ci := 0) (v := .int (o 3)) (C := RX0) (T := TX0) (N := 12) hx hb hts (by decide +kernel) tyX0 tyX0_ok nmX0 hown hG.1 hI ha hk hC rfl 3 (by decide) (hts (.fieldLink RX0 20 "CoracleRace$Boat" "place" "I") (by decide +kernel)) rfl rfl rfl (Nat.le_of_ble_eq_true rfl) dX0_copyFrom_36 (fun E10 H locs hE11 hn12 hI => ?_)
  have hC : E10 kb = .inr (0, [.ref (ad (kb + 1)), .int (o 1), .int (o 2), .int (o 3), .int (b 4), .int (b 5), .int (b 6), .int (b 7), .int (b 8), .int (b 9), .int (b 10), .int (b 11)]) := hE11
  have hF : E10 (kb + 1) = .inl (cI, 6, .inl fo) := (hn12 (kb + 1) (by omega)).trans hF
  have hO : E10 ko = .inr (0, [.ref (ad (ko + 1)), .int (o 1), .int (o 2), .int (o 3), .int (o 4), .int (o 5), .int (o 6), .int (o 7), .int (o 8), .int (o 9), .int (o 10), .int (o 11)]) := (hn12 ko (by omega)).trans hO
  have hOF : E10 (ko + 1) = .inl (cI, 6, .inl fo) := (hn12 (ko + 1) (by omega)).trans hOF
  have hfr : ∀ q : Nat, q ≠ kb ∧ q ≠ kb + 1 → E10 q = E q := fun q hq => (hn12 q (by omega)).trans (hfr q hq)
  refine lv_aload_n hx hb dX0_copyFrom_39 rfl (lv_at hl 0 rfl) ?_
  refine lv_aload_n hx hb dX0_copyFrom_40 rfl (lv_at hl 1 rfl) ?_
  refine f_get (ci := 0) (v := .int (o 4)) (C := RX0) (T := TX0) (N := 12) hx hb hts (by decide +kernel) hown hG.1 hI hao hko hO rfl 4 (by decide) (hts (.fieldLink RX0 23 "CoracleRace$Boat" "lane" "I") (by decide +kernel)) rfl dX0_copyFrom_41 ?_
  refine f_put (ci := 0) (v := .int (o 4)) (C := RX0) (T := TX0) (N := 12) hx hb hts (by decide +kernel) tyX0 tyX0_ok nmX0 hown hG.1 hI ha hk hC rfl 4 (by decide) (hts (.fieldLink RX0 23 "CoracleRace$Boat" "lane" "I") (by decide +kernel)) rfl rfl rfl (Nat.le_of_ble_eq_true rfl) dX0_copyFrom_44 (fun E13 H locs hE14 hn15 hI => ?_)
  have hC : E13 kb = .inr (0, [.ref (ad (kb + 1)), .int (o 1), .int (o 2), .int (o 3), .int (o 4), .int (b 5), .int (b 6), .int (b 7), .int (b 8), .int (b 9), .int (b 10), .int (b 11)]) := hE14
  have hF : E13 (kb + 1) = .inl (cI, 6, .inl fo) := (hn15 (kb + 1) (by omega)).trans hF
  have hO : E13 ko = .inr (0, [.ref (ad (ko + 1)), .int (o 1), .int (o 2), .int (o 3), .int (o 4), .int (o 5), .int (o 6), .int (o 7), .int (o 8), .int (o 9), .int (o 10), .int (o 11)]) := (hn15 ko (by omega)).trans hO
  have hOF : E13 (ko + 1) = .inl (cI, 6, .inl fo) := (hn15 (ko + 1) (by omega)).trans hOF
  have hfr : ∀ q : Nat, q ≠ kb ∧ q ≠ kb + 1 → E13 q = E q := fun q hq => (hn15 q (by omega)).trans (hfr q hq)
  refine lv_aload_n hx hb dX0_copyFrom_47 rfl (lv_at hl 0 rfl) ?_
  refine lv_aload_n hx hb dX0_copyFrom_48 rfl (lv_at hl 1 rfl) ?_
  refine f_get (ci := 0) (v := .int (o 5)) (C := RX0) (T := TX0) (N := 12) hx hb hts (by decide +kernel) hown hG.1 hI hao hko hO rfl 5 (by decide) (hts (.fieldLink RX0 26 "CoracleRace$Boat" "heading" "I") (by decide +kernel)) rfl dX0_copyFrom_49 ?_
  refine f_put (ci := 0) (v := .int (o 5)) (C := RX0) (T := TX0) (N := 12) hx hb hts (by decide +kernel) tyX0 tyX0_ok nmX0 hown hG.1 hI ha hk hC rfl 5 (by decide) (hts (.fieldLink RX0 26 "CoracleRace$Boat" "heading" "I") (by decide +kernel)) rfl rfl rfl (Nat.le_of_ble_eq_true rfl) dX0_copyFrom_52 (fun E16 H locs hE17 hn18 hI => ?_)
  have hC : E16 kb = .inr (0, [.ref (ad (kb + 1)), .int (o 1), .int (o 2), .int (o 3), .int (o 4), .int (o 5), .int (b 6), .int (b 7), .int (b 8), .int (b 9), .int (b 10), .int (b 11)]) := hE17
  have hF : E16 (kb + 1) = .inl (cI, 6, .inl fo) := (hn18 (kb + 1) (by omega)).trans hF
  have hO : E16 ko = .inr (0, [.ref (ad (ko + 1)), .int (o 1), .int (o 2), .int (o 3), .int (o 4), .int (o 5), .int (o 6), .int (o 7), .int (o 8), .int (o 9), .int (o 10), .int (o 11)]) := (hn18 ko (by omega)).trans hO
  have hOF : E16 (ko + 1) = .inl (cI, 6, .inl fo) := (hn18 (ko + 1) (by omega)).trans hOF
  have hfr : ∀ q : Nat, q ≠ kb ∧ q ≠ kb + 1 → E16 q = E q := fun q hq => (hn18 q (by omega)).trans (hfr q hq)
  refine lv_aload_n hx hb dX0_copyFrom_55 rfl (lv_at hl 0 rfl) ?_
  refine lv_aload_n hx hb dX0_copyFrom_56 rfl (lv_at hl 1 rfl) ?_
  refine f_get (ci := 0) (v := .int (o 6)) (C := RX0) (T := TX0) (N := 12) hx hb hts (by decide +kernel) hown hG.1 hI hao hko hO rfl 6 (by decide) (hts (.fieldLink RX0 29 "CoracleRace$Boat" "soaked" "I") (by decide +kernel)) rfl dX0_copyFrom_57 ?_
  refine f_put (ci := 0) (v := .int (o 6)) (C := RX0) (T := TX0) (N := 12) hx hb hts (by decide +kernel) tyX0 tyX0_ok nmX0 hown hG.1 hI ha hk hC rfl 6 (by decide) (hts (.fieldLink RX0 29 "CoracleRace$Boat" "soaked" "I") (by decide +kernel)) rfl rfl rfl (Nat.le_of_ble_eq_true rfl) dX0_copyFrom_60 (fun E19 H locs hE20 hn21 hI => ?_)
  have hC : E19 kb = .inr (0, [.ref (ad (kb + 1)), .int (o 1), .int (o 2), .int (o 3), .int (o 4), .int (o 5), .int (o 6), .int (b 7), .int (b 8), .int (b 9), .int (b 10), .int (b 11)]) := hE20
  have hF : E19 (kb + 1) = .inl (cI, 6, .inl fo) := (hn21 (kb + 1) (by omega)).trans hF
  have hO : E19 ko = .inr (0, [.ref (ad (ko + 1)), .int (o 1), .int (o 2), .int (o 3), .int (o 4), .int (o 5), .int (o 6), .int (o 7), .int (o 8), .int (o 9), .int (o 10), .int (o 11)]) := (hn21 ko (by omega)).trans hO
  have hOF : E19 (ko + 1) = .inl (cI, 6, .inl fo) := (hn21 (ko + 1) (by omega)).trans hOF
  have hfr : ∀ q : Nat, q ≠ kb ∧ q ≠ kb + 1 → E19 q = E q := fun q hq => (hn21 q (by omega)).trans (hfr q hq)
  refine lv_aload_n hx hb dX0_copyFrom_63 rfl (lv_at hl 0 rfl) ?_
  refine lv_aload_n hx hb dX0_copyFrom_64 rfl (lv_at hl 1 rfl) ?_
  refine f_get (ci := 0) (v := .int (o 7)) (C := RX0) (T := TX0) (N := 12) hx hb hts (by decide +kernel) hown hG.1 hI hao hko hO rfl 7 (by decide) (hts (.fieldLink RX0 32 "CoracleRace$Boat" "fouls" "I") (by decide +kernel)) rfl dX0_copyFrom_65 ?_
  refine f_put (ci := 0) (v := .int (o 7)) (C := RX0) (T := TX0) (N := 12) hx hb hts (by decide +kernel) tyX0 tyX0_ok nmX0 hown hG.1 hI ha hk hC rfl 7 (by decide) (hts (.fieldLink RX0 32 "CoracleRace$Boat" "fouls" "I") (by decide +kernel)) rfl rfl rfl (Nat.le_of_ble_eq_true rfl) dX0_copyFrom_68 (fun E22 H locs hE23 hn24 hI => ?_)
  have hC : E22 kb = .inr (0, [.ref (ad (kb + 1)), .int (o 1), .int (o 2), .int (o 3), .int (o 4), .int (o 5), .int (o 6), .int (o 7), .int (b 8), .int (b 9), .int (b 10), .int (b 11)]) := hE23
  have hF : E22 (kb + 1) = .inl (cI, 6, .inl fo) := (hn24 (kb + 1) (by omega)).trans hF
  have hO : E22 ko = .inr (0, [.ref (ad (ko + 1)), .int (o 1), .int (o 2), .int (o 3), .int (o 4), .int (o 5), .int (o 6), .int (o 7), .int (o 8), .int (o 9), .int (o 10), .int (o 11)]) := (hn24 ko (by omega)).trans hO
  have hOF : E22 (ko + 1) = .inl (cI, 6, .inl fo) := (hn24 (ko + 1) (by omega)).trans hOF
  have hfr : ∀ q : Nat, q ≠ kb ∧ q ≠ kb + 1 → E22 q = E q := fun q hq => (hn24 q (by omega)).trans (hfr q hq)
  refine lv_aload_n hx hb dX0_copyFrom_71 rfl (lv_at hl 0 rfl) ?_
  refine lv_aload_n hx hb dX0_copyFrom_72 rfl (lv_at hl 1 rfl) ?_
  refine f_get (ci := 0) (v := .int (o 8)) (C := RX0) (T := TX0) (N := 12) hx hb hts (by decide +kernel) hown hG.1 hI hao hko hO rfl 8 (by decide) (hts (.fieldLink RX0 35 "CoracleRace$Boat" "in" "Z") (by decide +kernel)) rfl dX0_copyFrom_73 ?_
  refine f_put (ci := 0) (v := .int (o 8)) (C := RX0) (T := TX0) (N := 12) hx hb hts (by decide +kernel) tyX0 tyX0_ok nmX0 hown hG.1 hI ha hk hC rfl 8 (by decide) (hts (.fieldLink RX0 35 "CoracleRace$Boat" "in" "Z") (by decide +kernel)) rfl (bn_of h8) (bf_of h8) (Nat.le_of_ble_eq_true rfl) dX0_copyFrom_76 (fun E25 H locs hE26 hn27 hI => ?_)
  have hC : E25 kb = .inr (0, [.ref (ad (kb + 1)), .int (o 1), .int (o 2), .int (o 3), .int (o 4), .int (o 5), .int (o 6), .int (o 7), .int (o 8), .int (b 9), .int (b 10), .int (b 11)]) := hE26
  have hF : E25 (kb + 1) = .inl (cI, 6, .inl fo) := (hn27 (kb + 1) (by omega)).trans hF
  have hO : E25 ko = .inr (0, [.ref (ad (ko + 1)), .int (o 1), .int (o 2), .int (o 3), .int (o 4), .int (o 5), .int (o 6), .int (o 7), .int (o 8), .int (o 9), .int (o 10), .int (o 11)]) := (hn27 ko (by omega)).trans hO
  have hOF : E25 (ko + 1) = .inl (cI, 6, .inl fo) := (hn27 (ko + 1) (by omega)).trans hOF
  have hfr : ∀ q : Nat, q ≠ kb ∧ q ≠ kb + 1 → E25 q = E q := fun q hq => (hn27 q (by omega)).trans (hfr q hq)
  refine lv_aload_n hx hb dX0_copyFrom_79 rfl (lv_at hl 0 rfl) ?_
  refine lv_aload_n hx hb dX0_copyFrom_80 rfl (lv_at hl 1 rfl) ?_
  refine f_get (ci := 0) (v := .int (o 9)) (C := RX0) (T := TX0) (N := 12) hx hb hts (by decide +kernel) hown hG.1 hI hao hko hO rfl 9 (by decide) (hts (.fieldLink RX0 39 "CoracleRace$Boat" "tickIn" "I") (by decide +kernel)) rfl dX0_copyFrom_81 ?_
  refine f_put (ci := 0) (v := .int (o 9)) (C := RX0) (T := TX0) (N := 12) hx hb hts (by decide +kernel) tyX0 tyX0_ok nmX0 hown hG.1 hI ha hk hC rfl 9 (by decide) (hts (.fieldLink RX0 39 "CoracleRace$Boat" "tickIn" "I") (by decide +kernel)) rfl rfl rfl (Nat.le_of_ble_eq_true rfl) dX0_copyFrom_84 (fun E28 H locs hE29 hn30 hI => ?_)
  have hC : E28 kb = .inr (0, [.ref (ad (kb + 1)), .int (o 1), .int (o 2), .int (o 3), .int (o 4), .int (o 5), .int (o 6), .int (o 7), .int (o 8), .int (o 9), .int (b 10), .int (b 11)]) := hE29
  have hF : E28 (kb + 1) = .inl (cI, 6, .inl fo) := (hn30 (kb + 1) (by omega)).trans hF
  have hO : E28 ko = .inr (0, [.ref (ad (ko + 1)), .int (o 1), .int (o 2), .int (o 3), .int (o 4), .int (o 5), .int (o 6), .int (o 7), .int (o 8), .int (o 9), .int (o 10), .int (o 11)]) := (hn30 ko (by omega)).trans hO
  have hOF : E28 (ko + 1) = .inl (cI, 6, .inl fo) := (hn30 (ko + 1) (by omega)).trans hOF
  have hfr : ∀ q : Nat, q ≠ kb ∧ q ≠ kb + 1 → E28 q = E q := fun q hq => (hn30 q (by omega)).trans (hfr q hq)
  refine lv_aload_n hx hb dX0_copyFrom_87 rfl (lv_at hl 0 rfl) ?_
  refine lv_aload_n hx hb dX0_copyFrom_88 rfl (lv_at hl 1 rfl) ?_
  refine f_get (ci := 0) (v := .int (o 10)) (C := RX0) (T := TX0) (N := 12) hx hb hts (by decide +kernel) hown hG.1 hI hao hko hO rfl 10 (by decide) (hts (.fieldLink RX0 42 "CoracleRace$Boat" "spins" "I") (by decide +kernel)) rfl dX0_copyFrom_89 ?_
  refine f_put (ci := 0) (v := .int (o 10)) (C := RX0) (T := TX0) (N := 12) hx hb hts (by decide +kernel) tyX0 tyX0_ok nmX0 hown hG.1 hI ha hk hC rfl 10 (by decide) (hts (.fieldLink RX0 42 "CoracleRace$Boat" "spins" "I") (by decide +kernel)) rfl rfl rfl (Nat.le_of_ble_eq_true rfl) dX0_copyFrom_92 (fun E31 H locs hE32 hn33 hI => ?_)
  have hC : E31 kb = .inr (0, [.ref (ad (kb + 1)), .int (o 1), .int (o 2), .int (o 3), .int (o 4), .int (o 5), .int (o 6), .int (o 7), .int (o 8), .int (o 9), .int (o 10), .int (b 11)]) := hE32
  have hF : E31 (kb + 1) = .inl (cI, 6, .inl fo) := (hn33 (kb + 1) (by omega)).trans hF
  have hO : E31 ko = .inr (0, [.ref (ad (ko + 1)), .int (o 1), .int (o 2), .int (o 3), .int (o 4), .int (o 5), .int (o 6), .int (o 7), .int (o 8), .int (o 9), .int (o 10), .int (o 11)]) := (hn33 ko (by omega)).trans hO
  have hOF : E31 (ko + 1) = .inl (cI, 6, .inl fo) := (hn33 (ko + 1) (by omega)).trans hOF
  have hfr : ∀ q : Nat, q ≠ kb ∧ q ≠ kb + 1 → E31 q = E q := fun q hq => (hn33 q (by omega)).trans (hfr q hq)
  refine lv_aload_n hx hb dX0_copyFrom_95 rfl (lv_at hl 0 rfl) ?_
  refine lv_aload_n hx hb dX0_copyFrom_96 rfl (lv_at hl 1 rfl) ?_
  refine f_get (ci := 0) (v := .int (o 11)) (C := RX0) (T := TX0) (N := 12) hx hb hts (by decide +kernel) hown hG.1 hI hao hko hO rfl 11 (by decide) (hts (.fieldLink RX0 45 "CoracleRace$Boat" "stops" "I") (by decide +kernel)) rfl dX0_copyFrom_97 ?_
  refine f_put (ci := 0) (v := .int (o 11)) (C := RX0) (T := TX0) (N := 12) hx hb hts (by decide +kernel) tyX0 tyX0_ok nmX0 hown hG.1 hI ha hk hC rfl 11 (by decide) (hts (.fieldLink RX0 45 "CoracleRace$Boat" "stops" "I") (by decide +kernel)) rfl rfl rfl (Nat.le_of_ble_eq_true rfl) dX0_copyFrom_100 (fun E34 H locs hE35 hn36 hI => ?_)
  have hC : E34 kb = .inr (0, [.ref (ad (kb + 1)), .int (o 1), .int (o 2), .int (o 3), .int (o 4), .int (o 5), .int (o 6), .int (o 7), .int (o 8), .int (o 9), .int (o 10), .int (o 11)]) := hE35
  have hF : E34 (kb + 1) = .inl (cI, 6, .inl fo) := (hn36 (kb + 1) (by omega)).trans hF
  have hO : E34 ko = .inr (0, [.ref (ad (ko + 1)), .int (o 1), .int (o 2), .int (o 3), .int (o 4), .int (o 5), .int (o 6), .int (o 7), .int (o 8), .int (o 9), .int (o 10), .int (o 11)]) := (hn36 ko (by omega)).trans hO
  have hOF : E34 (ko + 1) = .inl (cI, 6, .inl fo) := (hn36 (ko + 1) (by omega)).trans hOF
  have hfr : ∀ q : Nat, q ≠ kb ∧ q ≠ kb + 1 → E34 q = E q := fun q hq => (hn36 q (by omega)).trans (hfr q hq)
  exact f_retv hQ hx hb hr hlocks hI.2.2 (by omega) (by omega) dX0_copyFrom_103 E34 (fB_of hI) (⟨hC, hF, hfr⟩)
end
