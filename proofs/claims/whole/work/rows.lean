section
-- ===== PART A: goes FIRST, ahead of the names: the tables' words, and 'selects' of the private methods out of them =====
/-- a private method of a class that the tables say can be made, by its rows of tables_1 -/
def lw_okq (q : MethodName × Nat) : Prop := (q.1.cls ≠ "java/lang/invoke/MethodHandle" ∧ q.1.cls ≠ "java/lang/invoke/VarHandle") ∧ Cond.instantiable q.1.cls q.2 ∈ tables_1 ∧ Cond.privateMethod q.1 ∈ tables_1 ∧ Cond.instanceMethod q.1 ∈ tables_1
theorem lw_p0 : lw_okq (⟨"CoracleRace", "countIn", "(LCoracleRace$Fleet;I)I"⟩, 3) := ⟨⟨by decide +kernel, by decide +kernel⟩, List.mem_of_getElem? (i := 16) (by decide +kernel), List.mem_of_getElem? (i := 141) (by decide +kernel), List.mem_of_getElem? (i := 142) (by decide +kernel)⟩
theorem lw_p1 : lw_okq (⟨"CoracleRace", "digestWith", "(JLCoracleRace$Boat;)J"⟩, 3) := ⟨⟨by decide +kernel, by decide +kernel⟩, List.mem_of_getElem? (i := 16) (by decide +kernel), List.mem_of_getElem? (i := 169) (by decide +kernel), List.mem_of_getElem? (i := 170) (by decide +kernel)⟩
theorem lw_p2 : lw_okq (⟨"java/lang/Throwable", "fillInStackTrace", "(I)Ljava/lang/Throwable;"⟩, 6) := ⟨⟨by decide +kernel, by decide +kernel⟩, List.mem_of_getElem? (i := 236) (by decide +kernel), List.mem_of_getElem? (i := 234) (by decide +kernel), List.mem_of_getElem? (i := 235) (by decide +kernel)⟩
theorem lw_p3 : lw_okq (⟨"CoracleRace$Boat", "strokeIn", "(I)I"⟩, 12) := ⟨⟨by decide +kernel, by decide +kernel⟩, List.mem_of_getElem? (i := 56) (by decide +kernel), List.mem_of_getElem? (i := 421) (by decide +kernel), List.mem_of_getElem? (i := 422) (by decide +kernel)⟩
theorem lw_p4 : lw_okq (⟨"CoracleRace$Boat", "forceOf", "(I)I"⟩, 12) := ⟨⟨by decide +kernel, by decide +kernel⟩, List.mem_of_getElem? (i := 56) (by decide +kernel), List.mem_of_getElem? (i := 428) (by decide +kernel), List.mem_of_getElem? (i := 429) (by decide +kernel)⟩
theorem lw_p5 : lw_okq (⟨"CoracleRace$Boat", "pushOf", "(I)I"⟩, 12) := ⟨⟨by decide +kernel, by decide +kernel⟩, List.mem_of_getElem? (i := 56) (by decide +kernel), List.mem_of_getElem? (i := 432) (by decide +kernel), List.mem_of_getElem? (i := 433) (by decide +kernel)⟩
theorem lw_p6 : lw_okq (⟨"CoracleRace$Boat", "drift", "()V"⟩, 12) := ⟨⟨by decide +kernel, by decide +kernel⟩, List.mem_of_getElem? (i := 56) (by decide +kernel), List.mem_of_getElem? (i := 439) (by decide +kernel), List.mem_of_getElem? (i := 440) (by decide +kernel)⟩
theorem lw_p7 : lw_okq (⟨"CoracleRace$Boat", "advance", "(LCoracleRace$River;I)V"⟩, 12) := ⟨⟨by decide +kernel, by decide +kernel⟩, List.mem_of_getElem? (i := 56) (by decide +kernel), List.mem_of_getElem? (i := 444) (by decide +kernel), List.mem_of_getElem? (i := 445) (by decide +kernel)⟩
theorem lw_p8 : lw_okq (⟨"CoracleRace$Boat", "soak", "(I)V"⟩, 12) := ⟨⟨by decide +kernel, by decide +kernel⟩, List.mem_of_getElem? (i := 56) (by decide +kernel), List.mem_of_getElem? (i := 458) (by decide +kernel), List.mem_of_getElem? (i := 459) (by decide +kernel)⟩
theorem lw_p9 : lw_okq (⟨"CoracleRace", "placeWith", "(III)I"⟩, 3) := ⟨⟨by decide +kernel, by decide +kernel⟩, List.mem_of_getElem? (i := 16) (by decide +kernel), List.mem_of_getElem? (i := 498) (by decide +kernel), List.mem_of_getElem? (i := 499) (by decide +kernel)⟩
theorem lw_p10 : lw_okq (⟨"CoracleRaceModel", "no", "(I)I"⟩, 9) := ⟨⟨by decide +kernel, by decide +kernel⟩, List.mem_of_getElem? (i := 502) (by decide +kernel), List.mem_of_getElem? (i := 606) (by decide +kernel), List.mem_of_getElem? (i := 607) (by decide +kernel)⟩
theorem lw_p11 : lw_okq (⟨"CoracleRaceModel", "isBoat", "(I)Z"⟩, 9) := ⟨⟨by decide +kernel, by decide +kernel⟩, List.mem_of_getElem? (i := 502) (by decide +kernel), List.mem_of_getElem? (i := 622) (by decide +kernel), List.mem_of_getElem? (i := 623) (by decide +kernel)⟩
theorem lw_p12 : lw_okq (⟨"CoracleRaceModel", "boatTold", "(II)I"⟩, 9) := ⟨⟨by decide +kernel, by decide +kernel⟩, List.mem_of_getElem? (i := 502) (by decide +kernel), List.mem_of_getElem? (i := 643) (by decide +kernel), List.mem_of_getElem? (i := 644) (by decide +kernel)⟩
theorem lw_p13 : lw_okq (⟨"CoracleRaceModel", "rankOf", "(I)I"⟩, 9) := ⟨⟨by decide +kernel, by decide +kernel⟩, List.mem_of_getElem? (i := 502) (by decide +kernel), List.mem_of_getElem? (i := 674) (by decide +kernel), List.mem_of_getElem? (i := 675) (by decide +kernel)⟩
theorem lw_p14 : lw_okq (⟨"CoracleRaceModel", "isAhead", "(II)Z"⟩, 9) := ⟨⟨by decide +kernel, by decide +kernel⟩, List.mem_of_getElem? (i := 502) (by decide +kernel), List.mem_of_getElem? (i := 678) (by decide +kernel), List.mem_of_getElem? (i := 679) (by decide +kernel)⟩
theorem lw_p15 : lw_okq (⟨"CoracleRaceModel$State", "go", "(I)V"⟩, 12) := ⟨⟨by decide +kernel, by decide +kernel⟩, List.mem_of_getElem? (i := 508) (by decide +kernel), List.mem_of_getElem? (i := 691) (by decide +kernel), List.mem_of_getElem? (i := 692) (by decide +kernel)⟩
def lw_privs_1 : List (MethodName × Nat) := [(⟨"CoracleRace", "countIn", "(LCoracleRace$Fleet;I)I"⟩, 3), (⟨"CoracleRace", "digestWith", "(JLCoracleRace$Boat;)J"⟩, 3), (⟨"java/lang/Throwable", "fillInStackTrace", "(I)Ljava/lang/Throwable;"⟩, 6), (⟨"CoracleRace$Boat", "strokeIn", "(I)I"⟩, 12), (⟨"CoracleRace$Boat", "forceOf", "(I)I"⟩, 12), (⟨"CoracleRace$Boat", "pushOf", "(I)I"⟩, 12), (⟨"CoracleRace$Boat", "drift", "()V"⟩, 12), (⟨"CoracleRace$Boat", "advance", "(LCoracleRace$River;I)V"⟩, 12), (⟨"CoracleRace$Boat", "soak", "(I)V"⟩, 12), (⟨"CoracleRace", "placeWith", "(III)I"⟩, 3), (⟨"CoracleRaceModel", "no", "(I)I"⟩, 9), (⟨"CoracleRaceModel", "isBoat", "(I)Z"⟩, 9), (⟨"CoracleRaceModel", "boatTold", "(II)I"⟩, 9), (⟨"CoracleRaceModel", "rankOf", "(I)I"⟩, 9), (⟨"CoracleRaceModel", "isAhead", "(II)Z"⟩, 9), (⟨"CoracleRaceModel$State", "go", "(I)V"⟩, 12)]
theorem lw_r1 : ∀ q ∈ lw_privs_1, lw_okq q := List.forall_mem_cons.mpr ⟨lw_p0, List.forall_mem_cons.mpr ⟨lw_p1, List.forall_mem_cons.mpr ⟨lw_p2, List.forall_mem_cons.mpr ⟨lw_p3, List.forall_mem_cons.mpr ⟨lw_p4, List.forall_mem_cons.mpr ⟨lw_p5, List.forall_mem_cons.mpr ⟨lw_p6, List.forall_mem_cons.mpr ⟨lw_p7, List.forall_mem_cons.mpr ⟨lw_p8, List.forall_mem_cons.mpr ⟨lw_p9, List.forall_mem_cons.mpr ⟨lw_p10, List.forall_mem_cons.mpr ⟨lw_p11, List.forall_mem_cons.mpr ⟨lw_p12, List.forall_mem_cons.mpr ⟨lw_p13, List.forall_mem_cons.mpr ⟨lw_p14, List.forall_mem_cons.mpr ⟨lw_p15, fun _ h => absurd h List.not_mem_nil⟩⟩⟩⟩⟩⟩⟩⟩⟩⟩⟩⟩⟩⟩⟩⟩
theorem lw_p16 : lw_okq (⟨"CoracleRaceModel$State", "paddles", "(I)I"⟩, 12) := ⟨⟨by decide +kernel, by decide +kernel⟩, List.mem_of_getElem? (i := 508) (by decide +kernel), List.mem_of_getElem? (i := 695) (by decide +kernel), List.mem_of_getElem? (i := 696) (by decide +kernel)⟩
theorem lw_p17 : lw_okq (⟨"CoracleRaceModel$State", "drift", "(I)V"⟩, 12) := ⟨⟨by decide +kernel, by decide +kernel⟩, List.mem_of_getElem? (i := 508) (by decide +kernel), List.mem_of_getElem? (i := 706) (by decide +kernel), List.mem_of_getElem? (i := 707) (by decide +kernel)⟩
theorem lw_p18 : lw_okq (⟨"CoracleRaceModel$State", "stopsAt", "(II)I"⟩, 12) := ⟨⟨by decide +kernel, by decide +kernel⟩, List.mem_of_getElem? (i := 508) (by decide +kernel), List.mem_of_getElem? (i := 710) (by decide +kernel), List.mem_of_getElem? (i := 711) (by decide +kernel)⟩
theorem lw_p19 : lw_okq (⟨"CoracleRaceModel$State", "soak", "(II)V"⟩, 12) := ⟨⟨by decide +kernel, by decide +kernel⟩, List.mem_of_getElem? (i := 508) (by decide +kernel), List.mem_of_getElem? (i := 714) (by decide +kernel), List.mem_of_getElem? (i := 715) (by decide +kernel)⟩
theorem lw_p20 : lw_okq (⟨"CoracleRaceModel$State", "copy", "([I[I)V"⟩, 12) := ⟨⟨by decide +kernel, by decide +kernel⟩, List.mem_of_getElem? (i := 508) (by decide +kernel), List.mem_of_getElem? (i := 727) (by decide +kernel), List.mem_of_getElem? (i := 728) (by decide +kernel)⟩
def lw_privs_2 : List (MethodName × Nat) := [(⟨"CoracleRaceModel$State", "paddles", "(I)I"⟩, 12), (⟨"CoracleRaceModel$State", "drift", "(I)V"⟩, 12), (⟨"CoracleRaceModel$State", "stopsAt", "(II)I"⟩, 12), (⟨"CoracleRaceModel$State", "soak", "(II)V"⟩, 12), (⟨"CoracleRaceModel$State", "copy", "([I[I)V"⟩, 12)]
theorem lw_r2 : ∀ q ∈ lw_privs_2, lw_okq q := List.forall_mem_cons.mpr ⟨lw_p16, List.forall_mem_cons.mpr ⟨lw_p17, List.forall_mem_cons.mpr ⟨lw_p18, List.forall_mem_cons.mpr ⟨lw_p19, List.forall_mem_cons.mpr ⟨lw_p20, fun _ h => absurd h List.not_mem_nil⟩⟩⟩⟩⟩
def lw_privs : List (MethodName × Nat) := lw_privs_1 ++ (lw_privs_2)
def lw_tbl : List Cond := k2_sels lw_privs ++ tables_1
theorem lw_privs_ok : ∀ q ∈ lw_privs, lw_okq q := by
  show ∀ q ∈ lw_privs_1 ++ (lw_privs_2), lw_okq q
  exact List.forall_mem_append.mpr ⟨lw_r1, lw_r2⟩
/-- the streams that the claim lets the run draw from -/
abbrev lw_cs : List Choice := [Jvm.Choice.named "NaN.bits"]
theorem lw_bits : nanBits ∈ lw_cs := by first | decide | exact List.mem_cons_self | simp [lw_cs, nanBits]
-- ===== end of PART A; then your names; then what follows =====
end
section
/-! ===== BEGIN words of one list among another's, by their places ===== -/
theorem goodIn_r {big : List Cond} (ws : List Cond) (ps : List Nat) (hp : ws = ps.filterMap (fun i => big[i]?)) (h : ws.all goodWord = true) : GoodIn big ws := by
  intro w hw
  have h1 := List.all_eq_true.mp h w hw
  rw [hp] at hw
  obtain ⟨i, -, hi⟩ := List.mem_filterMap.mp hw
  have hm : w ∈ big := by first | exact List.mem_of_getElem? hi | exact List.getElem?_mem hi
  exact ⟨hm, good_of_word h1⟩
theorem goodIn_app {big a b : List Cond} (ha : GoodIn big a) (hb : GoodIn big b) : GoodIn big (a ++ b) := fun w h => (List.mem_append.mp h).elim (ha w) (hb w)
theorem goodIn_ca {big a b : List Cond} {c : Cond} (ha : GoodIn big (c :: a)) (hb : GoodIn big b) : GoodIn big (c :: (a ++ b)) := fun w h => (List.mem_cons.mp h).elim (fun e => ha w (List.mem_cons.mpr (Or.inl e))) (fun h => (List.mem_append.mp h).elim (fun h => ha w (List.mem_cons.mpr (Or.inr h))) (hb w))
theorem goodIn_sub {big ws : List Cond} (hm : ∀ w ∈ ws, w ∈ big) (h : ws.all goodWord = true) : GoodIn big ws := fun w hw => ⟨hm w hw, good_of_word (List.all_eq_true.mp h w hw)⟩
/-! ===== END ===== -/

/-! ===== BEGIN exceptions that leave a method, and their catching by the caller (launches without stack traces) ===== -/
section VXA
/-! The laws vx_back, vx_callV, vx_callS, vx_callSW, vx_throw0, vx_throwS follow proofs of the library, with one case more: JvmDerived/Free/Laws.lean (Back.of_free), Shelf42/LK1.lean (callV, callS), Shelf/KitTraced.lean (throwNew0V, throwNewS). -/
/-- where a method has thrown q: the class by its name, the cell, what was written, the world -/
def vx_T (XC : String → State → State → Prop) (st : State) (q : Addr) (t : State) (mc ms : Nat) (free : Addr → Prop) : Prop :=
  ∃ (E : String) (ce : Cell) (L : List Loc), XC E st t ∧ t.heap[q]? = some ce ∧ ce.vm = .none ∧ st.vm.findClass E = some ce.cls ∧ st.WarmedH t.vm ∧ st.sameButNew ({ t with vm := st.vm } : State) L mc ms ∧ ∀ z ∈ L, free z.base
def vx_Q (Qc : Array Value → State → Outcome → State → Prop) (XC : String → State → State → Prop) (mc ms : Nat) (free : Addr → Prop) : Array Value → State → Outcome → State → Prop := fun a st o t =>
  (Qc a st o t ∧ ∃ L, FrameEnd st o t L mc ms ∧ ∀ q ∈ L, free q.base) ∨ ∃ q, o = .threw q ∧ vx_T XC st q t mc ms free
/-- a callee that returns or throws -/
def vx_Met (l : Launch) (y : MethodName) (ws : List Cond) (rm : Room) (Pc : Array Value → State → Prop) (Qc : Array Value → State → Outcome → State → Prop) (XC : String → State → State → Prop) (mc ms : Nat) (free : Addr → Prop) : Prop :=
  MetFree l y (headSpec ws rm) Pc (fun _ _ _ _ _ => True) (vx_Q Qc XC mc ms free)
def vx_Post (XC : String → State → State → Prop) (mc ms : Nat) (free : Addr → Prop) : Pt → Array Value → Addr → Pt → Prop := fun A a q B =>
  ∃ (g : JFrame) (mk : MethodId) (t : State) (L : List Loc) (E : String) (ce : Cell), B.U.heap = t.heap ∧ B.U.vm = t.vm ∧ XC E (A.U.calling g mk a) t ∧ t.heap[q]? = some ce ∧ ce.vm = .none ∧ A.U.vm.findClass E = some ce.cls ∧ B.locs = A.locs ++ L ∧ (∀ z ∈ L, free z.base) ∧ B.cells = A.cells + mc ∧ B.slots = A.slots + ms
def vx_Back (l : Launch) (R : Room) (p : Program) (e : Env) (below : List Frame) (s : State) (sargs : Array Value) (y : MethodName) (len W9 : Nat)
    (Pre : Pt → Array Value → Prop) (Post : Pt → Array Value → Option Value → Pt → Prop) (PostX : Pt → Array Value → Addr → Pt → Prop) : Prop :=
  ∀ (m : MethodId) (meth : Method) (c : Code) (A : Pt) (g : JFrame) (ig : Instr) (mk : MethodId) (a : Array Value),
    Stand p l e R s m sargs below meth c A.U A.locs A.cells A.slots → g.method = m → g.locals.size = c.maxLocals → decode c.code g.pc = .ok (ig, len) →
    2 * g.monitorRoom + (g.stack.map fun v => v.category).sum ≤ W9 → A.U.methodNamed? y = some mk → Pre A a →
    (∃ (v : Option Value) (B : Pt), Stand p l e R s m sargs below meth c B.U B.locs B.cells B.slots ∧ Post A a v B ∧
      Steps p.tables e below (doInvoke e (A.U.setTop g) [] mk a).1 (B.U.setTop { g with pc := g.pc + len, stack := v.toList ++ g.stack })) ∨
    (∃ (q : Addr) (B : Pt), Stand p l e R s m sargs below meth c B.U B.locs B.cells B.slots ∧ PostX A a q B ∧
      Steps p.tables e below (doInvoke e (A.U.setTop g) [] mk a).1 ((B.U.setTop g).pushFrame (.throwing q)))
section Payer
variable {l : Launch} {R : Room} {p : Program} {e : Env} {below : List Frame} {s : State} {sargs : Array Value} {y : MethodName} {len W9 : Nat}
theorem vx_back {ws : List Cond} {rm : Room} {Pc : Array Value → State → Prop} {Qc : Array Value → State → Outcome → State → Prop} {XC : String → State → State → Prop} {mc ms : Nat} {free : Addr → Prop} {bytes : ByteArray} {maxL : Nat} {ret : Option FieldType}
    (hM : vx_Met l y ws rm Pc Qc XC mc ms free) (hblind : FrameBlind Pc) (hrc : rm.cells = mc) (hrs : rm.slots = ms)
    (hframes : rm.frames + 1 ≤ R.frames) (hlocals : W9 + (maxL + 11) + rm.locals ≤ R.locals)
    (hws : ∀ w ∈ ws, ∀ a' U, s.WarmedH U.vm → w.before a' U = true) (hcode : Cond.code y bytes maxL ret ∈ ws) (hinit : ∀ a' U, s.WarmedH U.vm → (Cond.initialized y.cls).before a' U = true) :
    vx_Back l R p e below s sargs y len W9 (PreOf R mc ms Pc) (PostOf Qc mc ms free) (vx_Post XC mc ms free) := by
  intro m meth c A g ig mk a X hg hsize hdg hW hn hp
  have h1 : (headSpec ws rm).pre.before a A.U = true := atoms_intro fun w hw => hws w hw _ _ X.warmed
  have h2 : (Cond.code y bytes maxL ret).before a A.U = true := hws _ hcode _ _ X.warmed
  have h3 : (Cond.initialized y.cls).before a A.U = true := hinit _ _ X.warmed
  have h4 : A.cells + (headSpec ws rm).room.cells ≤ R.cells := by rw [show (headSpec ws rm).room.cells = mc from hrc]; exact hp.1
  have h5 : A.slots + (headSpec ws rm).room.slots ≤ R.slots := by rw [show (headSpec ws rm).room.slots = ms from hrs]; exact hp.2.1
  have hPc : Pc a (A.U.calling g mk a) := hblind _ _ _ _ hp.2.2
  obtain ⟨U, Ls, c0, s0⟩ := A
  dsimp only [Pt.U, Pt.locs, Pt.cells, Pt.slots] at h1 h2 h3 h4 h5 X hn hPc ⊢
  obtain ⟨methY, cY, hmY, hcY, -, hlY, -, -, -, -⟩ := Cond.code_spec hn h2
  obtain ⟨kY, hkY, -⟩ := className_of_methodNamed hn
  have hinitY : kY.init = .initialized := Cond.initialized_spec (findClass_of_methodNamed hn) hkY h3
  have h : At U g.method c below := by rw [hg]; exact X.here
  have hlocals9 : W9 + (maxL + 11) + (headSpec ws rm).room.locals ≤ R.locals := hlocals
  have happ : (headSpec ws rm).appliesLoose y e.platform (U.calling g mk a) = true :=
    Spec.appliesLoose_calling (g := g) h hdg hn hkY hinitY
      (X.room_calling (g := g) (R' := (headSpec ws rm).room) hsize hmY hcY hframes (by rw [hlY]; omega) h4 h5) h1
  obtain ⟨mid, hmid⟩ := h.above
  have hfr : (U.setTop g).frames = (.java g :: mid) ++ below := by rw [State.frames_setTop' g h.top, hmid]; rfl
  obtain ⟨o, s₂, hsteps, -, hend, hq⟩ := Steps.callFree hM p X.admits X.cas X.clock (acts := []) hfr happ hPc trivial
  have hq' : vx_Q Qc XC mc ms free a (U.calling g mk a) o s₂ := hq
  rw [State.frames_setTop' g h.top] at hend
  obtain ⟨g₀, hg0⟩ := Option.isSome_iff_exists.mp h.top
  obtain ⟨r, hr⟩ := State.topJava?_eq_some.mp hg0
  have hr' : (({ U with heap := s₂.heap, slotsUsed := s₂.slotsUsed } : State).setVm s₂.vm).frames = .java g₀ :: r := hr
  rcases hq' with ⟨hqc, L, hfe, hL⟩ | ⟨q, rfl, E, ce, L, hx, hce, hcv, hcl, hW₂, hsm, hL⟩
  · obtain ⟨⟨v, rfl⟩, hW₂, e2, q2, q3, q4, q5, q6⟩ := id hfe
    have e3 : s₂ = ({ (U.calling g mk a).setFrames s₂.frames with heap := s₂.heap, slotsUsed := s₂.slotsUsed } : State).setVm s₂.vm := by
      have : s₂ = ({ s₂ with vm := (U.calling g mk a).vm } : State).setVm s₂.vm := rfl
      rw [e2] at this
      exact this
    obtain ⟨c₂, i₂, len₂, hc₂, hd₂, hf₂⟩ := hend
    have hW' : U.WarmedH s₂.vm := hW₂
    have hcc : c₂ = c := by
      have h1 : s₂.code? g.method = U.code? g.method := by
        rw [State.code?_eq, State.code?_eq, hW'.alike.method?]
      exact Option.some.inj (hc₂.symm.trans (h1.trans h.code))
    subst hcc
    have hlen : len₂ = len := by rw [hdg] at hd₂; cases hd₂; rfl
    subst hlen
    have hs₂ : s₂ = (({ U with heap := s₂.heap, slotsUsed := s₂.slotsUsed } : State).setVm s₂.vm).setTop { g with pc := g.pc + len₂, stack := v.toList ++ g.stack } := by
      refine e3.trans ?_
      rw [hf₂, State.calling_eq h.top, State.setFrames_setFrames, State.setTop_of_frames _ hr', hr]
      rfl
    have hsame : U.sameButNew ({ U with heap := s₂.heap, slotsUsed := s₂.slotsUsed } : State) L mc ms := by
      refine ⟨?_, q2, q3, q4, q5, q6⟩
      obtain ⟨t, ht, -⟩ := State.frames_cons hr
      show ({ U with heap := s₂.heap, slotsUsed := s₂.slotsUsed } : State) = { U.setFrames U.frames with heap := s₂.heap, slotsUsed := s₂.slotsUsed }
      rw [State.setFrames_self ht]
    subst hg
    refine Or.inl ⟨v, ⟨(({ U with heap := s₂.heap, slotsUsed := s₂.slotsUsed } : State).setVm s₂.vm), Ls ++ L, c0 + mc, s0 + ms⟩,
      ⟨X.admits, X.cas, X.clock, X.frames, X.room, X.hears, X.method, X.code, (X.here.setHeapUsed s₂.heap s₂.slotsUsed).setVm hW'.alike, X.tail, State.WarmedH.trans X.warmed hW', X.limits, X.bytes, X.same.trans (hsame.setVm s.vm)⟩,
      ⟨g, mk, s₂, L, rfl, rfl, hqc, rfl, hL, rfl, rfl⟩, ?_⟩
    show Steps p.tables e below _ ((({ U with heap := s₂.heap, slotsUsed := s₂.slotsUsed } : State).setVm s₂.vm).setTop { g with pc := g.pc + len₂, stack := v.toList ++ g.stack })
    rw [← hs₂]
    exact hsteps
  · obtain ⟨e2, q2, q3, q4, q5, q6⟩ := id hsm
    have e3 : s₂ = ({ (U.calling g mk a).setFrames s₂.frames with heap := s₂.heap, slotsUsed := s₂.slotsUsed } : State).setVm s₂.vm := by
      have : s₂ = ({ s₂ with vm := (U.calling g mk a).vm } : State).setVm s₂.vm := rfl
      rw [e2] at this
      exact this
    have hf₂ : s₂.frames = .throwing q :: .java g :: U.frames.tail := hend
    have hW' : U.WarmedH s₂.vm := hW₂
    have hs₂ : s₂ = ((({ U with heap := s₂.heap, slotsUsed := s₂.slotsUsed } : State).setVm s₂.vm).setTop g).pushFrame (.throwing q) := by
      refine e3.trans ?_
      rw [hf₂, State.calling_eq h.top, State.setFrames_setFrames, State.pushFrame, State.frames_setTop _ hr', State.setTop_of_frames _ hr', State.setFrames_setFrames, hr]
      rfl
    have hsame : U.sameButNew ({ U with heap := s₂.heap, slotsUsed := s₂.slotsUsed } : State) L mc ms := by
      refine ⟨?_, q2, q3, q4, q5, q6⟩
      obtain ⟨t, ht, -⟩ := State.frames_cons hr
      show ({ U with heap := s₂.heap, slotsUsed := s₂.slotsUsed } : State) = { U.setFrames U.frames with heap := s₂.heap, slotsUsed := s₂.slotsUsed }
      rw [State.setFrames_self ht]
    subst hg
    refine Or.inr ⟨q, ⟨(({ U with heap := s₂.heap, slotsUsed := s₂.slotsUsed } : State).setVm s₂.vm), Ls ++ L, c0 + mc, s0 + ms⟩,
      ⟨X.admits, X.cas, X.clock, X.frames, X.room, X.hears, X.method, X.code, (X.here.setHeapUsed s₂.heap s₂.slotsUsed).setVm hW'.alike, X.tail, State.WarmedH.trans X.warmed hW', X.limits, X.bytes, X.same.trans (hsame.setVm s.vm)⟩,
      ⟨g, mk, s₂, L, E, ce, rfl, rfl, hx, hce, hcv, hcl, rfl, hL, rfl, rfl⟩, ?_⟩
    show Steps p.tables e below _ (((({ U with heap := s₂.heap, slotsUsed := s₂.slotsUsed } : State).setVm s₂.vm).setTop g).pushFrame (.throwing q))
    rw [← hs₂]
    exact hsteps
end Payer
section Calls
variable {p : Program} {l : Launch} {e : Env} {R : Room} {s : State} {m : MethodId} {args : Array Value} {below : List Frame} {meth : Method} {c : Code} {T : State} {locs : List Loc} {cells slots : Nat}
theorem vx_callV (X : Stand p l e R s m args below meth c T locs cells slots) (hexec : p.tables.exec = Jvm.exec) {own C : String} {index : Nat} {y : MethodName} {bytes : ByteArray} {maxL : Nat} {ret : Option FieldType}
    (hown : s.vm.findClass own = some m.cls) (hlink : (Cond.methodLink own index y).before args s = true) (hinst : (Cond.instanceMethod y).before args s = true) (hsel : (Cond.selects C y y).before args s = true)
    (hcode : (Cond.code y bytes maxL ret).before args s = true) (hy : y.cls ≠ "java/lang/invoke/MethodHandle" ∧ y.cls ≠ "java/lang/invoke/VarHandle")
    {W9 : Nat} {Pre : Pt → Array Value → Prop} {Post : Pt → Array Value → Option Value → Pt → Prop} {PostX : Pt → Array Value → Addr → Pt → Prop} (hK : vx_Back l R p e below s args y 3 W9 Pre Post PostX)
    {b : Addr} {cellB : Cell} (hcell : T.heap[b]? = some cellB) (hobj : cellB.vm.isStatics = false) (hcls : s.vm.findClass C = some cellB.cls)
    {g : JFrame} (hg : g.method = m) (hsize : g.locals.size = c.maxLocals) {argsL rest : List Value} (hlen : ∀ sig, parseMethodDescriptor y.desc = some sig → argsL.length = sig.parameters.length)
    (hstack : g.stack = argsL.reverse ++ .ref b :: rest) (hW : 2 * g.monitorRoom + (rest.map fun v => v.category).sum ≤ W9) (hdg : decode c.code g.pc = .ok (.invokevirtual index, 3))
    (hpre : ∀ vm₁, s.WarmedH vm₁ → Pre ⟨T.setVm vm₁, locs, cells, slots⟩ (Value.ref b :: argsL).toArray) :
    (∃ (v : Option Value) (vm₁ : Vm) (B : Pt), s.WarmedH vm₁ ∧ Stand p l e R s m args below meth c B.U B.locs B.cells B.slots ∧ Post ⟨T.setVm vm₁, locs, cells, slots⟩ (Value.ref b :: argsL).toArray v B ∧
      ∀ target, Steps p.tables e below (B.U.setTop { g with pc := g.pc + 3, stack := v.toList ++ rest }) target → Steps p.tables e below (T.setTop g) target) ∨
    (∃ (q : Addr) (vm₁ : Vm) (B : Pt), s.WarmedH vm₁ ∧ Stand p l e R s m args below meth c B.U B.locs B.cells B.slots ∧ PostX ⟨T.setVm vm₁, locs, cells, slots⟩ (Value.ref b :: argsL).toArray q B ∧
      Steps p.tables e below (T.setTop g) ((B.U.setTop { g with stack := rest }).pushFrame (.throwing q))) := by
  obtain ⟨mk, methM, hnamed, hmethM, hstM, habM⟩ := Cond.instanceMethod_spec hinst
  obtain ⟨methM', cM, hmethM', -, -, -, -, -, -, hsigM⟩ := Cond.code_spec hnamed hcode
  cases hmethM.symm.trans hmethM'
  obtain ⟨c2, r2, m2, q1, q2, q3, q4, kP, hkP, hkPi⟩ := Cond.selects_spec hsel
  cases hcls.symm.trans q1
  cases (State.methodFound?_of_named hnamed hy).symm.trans q2
  cases hnamed.symm.trans q3
  have hselP : selectMethod e.platform s.vm cellB.cls mk = .method mk := by rw [Launch.admits_selectMethod X.admits]; exact q4
  obtain ⟨vm₁, X₁, hstep₁⟩ := X.invokevirtual hexec hown hlink hnamed hmethM hstM hkP hkPi hy (a := b) (cell := cellB) hcell
    (fun z h => by rw [h] at hobj; cases hobj) hselP hmethM habM hkP hkPi (g := g) hg (argsL := argsL) (rest := rest) (hlen _ hsigM) hstack hdg
  rcases hK m meth c ⟨T.setVm vm₁, locs, cells, slots⟩ { g with stack := rest } (.invokevirtual index) mk (Value.ref b :: argsL).toArray X₁ hg hsize hdg hW (X₁.named hnamed) (hpre vm₁ X₁.warmed) with ⟨v, B, X', hpost, hsteps⟩ | ⟨q, B, X', hpost, hsteps⟩
  · exact Or.inl ⟨v, vm₁, B, X₁.warmed, X', hpost, fun target h => hstep₁ _ fun acts => by rw [doInvoke_state]; exact hsteps.trans h⟩
  · exact Or.inr ⟨q, vm₁, B, X₁.warmed, X', hpost, hstep₁ _ fun acts => by rw [doInvoke_state]; exact hsteps⟩
theorem vx_callS (X : Stand p l e R s m args below meth c T locs cells slots) (hexec : p.tables.exec = Jvm.exec) {own : String} {index : Nat} {y : MethodName} {bytes : ByteArray} {maxL : Nat} {ret : Option FieldType}
    (hown : s.vm.findClass own = some m.cls) (hlink : (Cond.methodLink own index y).before args s = true) (hstat : (Cond.static y).before args s = true) (hinit : (Cond.initialized y.cls).before args s = true)
    (hcode : (Cond.code y bytes maxL ret).before args s = true) (hy : y.cls ≠ "java/lang/invoke/MethodHandle" ∧ y.cls ≠ "java/lang/invoke/VarHandle")
    {W9 : Nat} {Pre : Pt → Array Value → Prop} {Post : Pt → Array Value → Option Value → Pt → Prop} {PostX : Pt → Array Value → Addr → Pt → Prop} (hK : vx_Back l R p e below s args y 3 W9 Pre Post PostX)
    {g : JFrame} (hg : g.method = m) (hsize : g.locals.size = c.maxLocals) {argsL rest : List Value} (hlen : ∀ sig, parseMethodDescriptor y.desc = some sig → argsL.length = sig.parameters.length)
    (hstack : g.stack = argsL.reverse ++ rest) (hW : 2 * g.monitorRoom + (rest.map fun v => v.category).sum ≤ W9) (hdg : decode c.code g.pc = .ok (.invokestatic index, 3))
    (hpre : ∀ vm₁, s.WarmedH vm₁ → Pre ⟨T.setVm vm₁, locs, cells, slots⟩ argsL.toArray) :
    (∃ (v : Option Value) (vm₁ : Vm) (B : Pt), s.WarmedH vm₁ ∧ Stand p l e R s m args below meth c B.U B.locs B.cells B.slots ∧ Post ⟨T.setVm vm₁, locs, cells, slots⟩ argsL.toArray v B ∧
      ∀ target, Steps p.tables e below (B.U.setTop { g with pc := g.pc + 3, stack := v.toList ++ rest }) target → Steps p.tables e below (T.setTop g) target) ∨
    (∃ (q : Addr) (vm₁ : Vm) (B : Pt), s.WarmedH vm₁ ∧ Stand p l e R s m args below meth c B.U B.locs B.cells B.slots ∧ PostX ⟨T.setVm vm₁, locs, cells, slots⟩ argsL.toArray q B ∧
      Steps p.tables e below (T.setTop g) ((B.U.setTop { g with stack := rest }).pushFrame (.throwing q))) := by
  obtain ⟨mk, hnamed⟩ := Cond.code_named hcode
  obtain ⟨methM, cM, hmethM, -, -, -, -, -, -, hsigM⟩ := Cond.code_spec hnamed hcode
  have hstatic : methM.isStatic = true := Cond.static_spec hnamed hmethM hstat
  obtain ⟨kP, hkP, -⟩ := className_of_methodNamed hnamed
  have hinitP : kP.init = .initialized := Cond.initialized_spec (findClass_of_methodNamed hnamed) hkP hinit
  obtain ⟨vm₁, X₁, hstep₁⟩ := X.invokestatic hexec hown hlink hnamed hmethM hstatic hkP hinitP hy (g := g) hg (argsL := argsL) (rest := rest) (hlen _ hsigM) hstack hdg
  rcases hK m meth c ⟨T.setVm vm₁, locs, cells, slots⟩ { g with stack := rest } (.invokestatic index) mk argsL.toArray X₁ hg hsize hdg hW (X₁.named hnamed) (hpre vm₁ X₁.warmed) with ⟨v, B, X', hpost, hsteps⟩ | ⟨q, B, X', hpost, hsteps⟩
  · exact Or.inl ⟨v, vm₁, B, X₁.warmed, X', hpost, fun target h => hstep₁ _ fun acts => by rw [doInvoke_state]; exact hsteps.trans h⟩
  · exact Or.inr ⟨q, vm₁, B, X₁.warmed, X', hpost, hstep₁ _ fun acts => by rw [doInvoke_state]; exact hsteps⟩
end Calls
theorem vx_cls {s : State} {T : State} {vm₁ : Vm} {E : String} {k : ClassId} (hW : s.WarmedH vm₁) (h : (T.setVm vm₁).vm.findClass E = some k) : s.vm.findClass E = some k := by
  have h1 : vm₁.findClass E = some k := h
  rw [hW.alike.findClass] at h1
  exact h1
/-- the method's frame g, with q thrown over it -/
def vx_W (p : Program) (l : Launch) (e : Env) (R : Room) (s : State) (m : MethodId) (args : Array Value) (below : List Frame) (meth : Method) (c : Code) (H : Heap) (locs : List Loc) (cells slots : Nat) (Q : State → Prop) (g : JFrame) (q : Addr) : Prop :=
  ∀ T : State, T.heap = H → Stand p l e R s m args below meth c T locs cells slots → ∃ t, Steps p.tables e below ((T.setTop g).pushFrame (.throwing q)) t ∧ Q t
def vx_Run (p : Program) (l : Launch) (e : Env) (R : Room) (s : State) (m : MethodId) (args : Array Value) (below : List Frame) (meth : Method) (c : Code) (H : Heap) (locs : List Loc) (cells slots mc ms : Nat) (g : JFrame) (rest : List Value) (Qa : State → Outcome → State → Prop) (XC : String → State → State → Prop) (free : Addr → Prop) : Prop :=
  ∀ T : State, T.heap = H → Stand p l e R s m args below meth c T locs cells slots →
    (∃ (v : Option Value) (st₀ t T' : State) (L : List Loc), st₀.heap = H ∧ Stand p l e R s m args below meth c T' (locs ++ L) (cells + mc) (slots + ms) ∧ (∀ q ∈ L, free q.base) ∧ T'.heap = t.heap ∧ T'.vm = t.vm ∧ Qa st₀ (.returned v) t ∧
      Goes p e below T g T' { g with pc := g.pc + 3, stack := v.toList ++ rest }) ∨
    (∃ (q : Addr) (st₀ t T' : State) (L : List Loc) (E : String) (ce : Cell), st₀.heap = H ∧ Stand p l e R s m args below meth c T' (locs ++ L) (cells + mc) (slots + ms) ∧ (∀ z ∈ L, free z.base) ∧ T'.heap = t.heap ∧ T'.vm = t.vm ∧ XC E st₀ t ∧ t.heap[q]? = some ce ∧ ce.vm = .none ∧ s.vm.findClass E = some ce.cls ∧
      Steps p.tables e below (T.setTop g) ((T'.setTop { g with stack := rest }).pushFrame (.throwing q)))
def vx_X {S : Type} (px : S → Prop) (B : String → S → State → Prop) (A : Nat → Prop) : String → State → State → Prop := fun E st t => ∃ u : S, px u ∧ B E u t ∧ va_F A st t
section Runs
variable {p : Program} {l : Launch} {e : Env} {R : Room} {s : State} {m : MethodId} {args : Array Value} {below : List Frame} {meth : Method} {c : Code} {H : Heap} {locs : List Loc} {cells slots : Nat}
variable {y : MethodName} {bytes cc : ByteArray} {maxL nL mc ms n index : Nat} {ret : Option FieldType} {ws : List Cond} {rm : Room} {Pc : Array Value → State → Prop} {Qc : Array Value → State → Outcome → State → Prop} {XC : String → State → State → Prop} {free : Addr → Prop} {Ts : List Cond} {own C : String} {b : Addr} {As rest : List Value} {g : JFrame}
theorem vx_callBack (cb : CallB R s args own index y bytes maxL ret ws rm mc ms n) (hM : vx_Met l y ws rm Pc Qc XC mc ms free) (hbl : FrameBlind Pc) : vx_Back l R p e below s args y 3 8 (PreOf R mc ms Pc) (PostOf Qc mc ms free) (vx_Post XC mc ms free) := by
  obtain ⟨hrc, hrs, hfr, hlo, hws, hcw, -, hini, -⟩ := cb
  exact vx_back (bytes := bytes) (maxL := maxL) (ret := ret) hM hbl hrc hrs hfr hlo hws hcw (fun a' U hW => word_at hW (Or.inl (by first | rfl | simp [Cond.onTables, Cond.keeps, Cond.steady])) hini)
theorem vx_runV (S : CallFix p m c cc nL s args Ts own) (hM : vx_Met l y ws rm Pc Qc XC mc ms free) (cw : CallW R s args own C index y bytes maxL ret ws rm mc ms n) (hp : PreV s H C b Pc As)
    (hg : g.method = m) (hn : As.length = n) (hsize : g.locals.size = nL) (hstack : g.stack = As.reverse ++ .ref b :: rest) (hW : 2 * g.monitorRoom + (rest.map fun v => v.category).sum ≤ 8) (hdg : decode cc g.pc = .ok (.invokevirtual index, 3)) (hf : cells + mc ≤ R.cells ∧ slots + ms ≤ R.slots) :
    vx_Run p l e R s m args below meth c H locs cells slots mc ms g rest (Qc (Value.ref b :: As).toArray) XC free := by
  have hK : vx_Back l R p e below s args y 3 8 (PreOf R mc ms Pc) (PostOf Qc mc ms free) (vx_Post XC mc ms free) := vx_callBack cw.1 hM hp.1
  obtain ⟨⟨-, -, -, -, -, -, hcode, -, hy, hlen, hl⟩, hin, hse⟩ := cw
  obtain ⟨hx, hb, hml, ho, -⟩ := S
  obtain ⟨-, ⟨cellB, hcB, hoB, hclB⟩, hPc⟩ := hp
  intro T hT X
  rcases vx_callV X hx (C := C) (bytes := bytes) (maxL := maxL) (ret := ret) ho hl hin hse hcode hy hK (by rw [hT]; exact hcB) hoB hclB hg (hsize.trans hml.symm) (argsL := As) (rest := rest) (fun sig h => hn.trans (hlen sig h)) hstack hW (by rw [hb]; exact hdg)
    (fun vm₁ hW₁ => ⟨hf.1, hf.2, hPc (T.setVm vm₁) hT hW₁⟩) with ⟨v, vm₁, ⟨U', l2, c2, s2⟩, hW₁, X', ⟨g', mk, t, L, e1, e2, hq, h1, hL, h2, h3⟩, st⟩ | ⟨q, vm₁, ⟨U', l2, c2, s2⟩, hW₁, X', ⟨g', mk, t, L, E, ce, e1, e2, hq, hce, hcv, hcl, h1, hL, h2, h3⟩, st⟩
  · dsimp only [Pt.U, Pt.locs, Pt.cells, Pt.slots] at X' e1 e2 h1 h2 h3 st
    subst h1; subst h2; subst h3
    exact Or.inl ⟨v, (T.setVm vm₁).calling g' mk (Value.ref b :: As).toArray, t, U', L, hT, X', hL, e1, e2, hq, st⟩
  · dsimp only [Pt.U, Pt.locs, Pt.cells, Pt.slots] at X' e1 e2 h1 h2 h3 st hcl
    subst h1; subst h2; subst h3
    exact Or.inr ⟨q, (T.setVm vm₁).calling g' mk (Value.ref b :: As).toArray, t, U', L, E, ce, hT, X', hL, e1, e2, hq, hce, hcv, vx_cls hW₁ hcl, st⟩
theorem vx_runS (S : CallFix p m c cc nL s args Ts own) (hM : vx_Met l y ws rm Pc Qc XC mc ms free) (cw : CallB R s args own index y bytes maxL ret ws rm mc ms n ∧ (Cond.static y).before args s = true) (hp : PreS s H Pc As)
    (hg : g.method = m) (hn : As.length = n) (hsize : g.locals.size = nL) (hstack : g.stack = As.reverse ++ rest) (hW : 2 * g.monitorRoom + (rest.map fun v => v.category).sum ≤ 8) (hdg : decode cc g.pc = .ok (.invokestatic index, 3)) (hf : cells + mc ≤ R.cells ∧ slots + ms ≤ R.slots) :
    vx_Run p l e R s m args below meth c H locs cells slots mc ms g rest (Qc As.toArray) XC free := by
  have hK : vx_Back l R p e below s args y 3 8 (PreOf R mc ms Pc) (PostOf Qc mc ms free) (vx_Post XC mc ms free) := vx_callBack cw.1 hM hp.1
  obtain ⟨⟨-, -, -, -, -, -, hcode, hini, hy, hlen, hl⟩, hstt⟩ := cw
  obtain ⟨hx, hb, hml, ho, -⟩ := S
  intro T hT X
  rcases vx_callS X hx (bytes := bytes) (maxL := maxL) (ret := ret) ho hl hstt hini hcode hy hK hg (hsize.trans hml.symm) (argsL := As) (rest := rest) (fun sig h => hn.trans (hlen sig h)) hstack hW (by rw [hb]; exact hdg)
    (fun vm₁ hW₁ => ⟨hf.1, hf.2, hp.2 (T.setVm vm₁) hT hW₁⟩) with ⟨v, vm₁, ⟨U', l2, c2, s2⟩, hW₁, X', ⟨g', mk, t, L, e1, e2, hq, h1, hL, h2, h3⟩, st⟩ | ⟨q, vm₁, ⟨U', l2, c2, s2⟩, hW₁, X', ⟨g', mk, t, L, E, ce, e1, e2, hq, hce, hcv, hcl, h1, hL, h2, h3⟩, st⟩
  · dsimp only [Pt.U, Pt.locs, Pt.cells, Pt.slots] at X' e1 e2 h1 h2 h3 st
    subst h1; subst h2; subst h3
    exact Or.inl ⟨v, (T.setVm vm₁).calling g' mk As.toArray, t, U', L, hT, X', hL, e1, e2, hq, st⟩
  · dsimp only [Pt.U, Pt.locs, Pt.cells, Pt.slots] at X' e1 e2 h1 h2 h3 st hcl
    subst h1; subst h2; subst h3
    exact Or.inr ⟨q, (T.setVm vm₁).calling g' mk As.toArray, t, U', L, E, ce, hT, X', hL, e1, e2, hq, hce, hcv, vx_cls hW₁ hcl, st⟩
end Runs
section Rows
variable {p : Program} {l : Launch} {e : Env} {R : Room} {s : State} {m : MethodId} {args : Array Value} {below : List Frame} {meth : Method} {c : Code} {H : Heap} {locs : List Loc} {cells slots : Nat} {Q : State → Prop}
variable {mc ms : Nat} {free : Addr → Prop} {A0 A1 : Nat → Prop} {H0 : Heap} {a : Array Value} {pc : Nat} {ls : Array Slot} {st0 rest : List Value}
theorem vx_keep {st₀ t T' : State} {L : List Loc} (h0 : st₀.heap = H) (e1 : T'.heap = t.heap) (hS : va_S A0 H0 H locs) (hA : ∀ q, q < H.size → A1 q → A0 q) (hf : ∀ q, free q → A0 q) (hL : ∀ q ∈ L, free q.base) (hF : va_F A1 st₀ t) :
    H.size ≤ T'.heap.size ∧ (∀ q : Nat, q < H.size → ¬ A1 q → T'.heap[q]? = H[q]?) ∧ va_S A0 H0 T'.heap (locs ++ L) := by
  obtain ⟨hz, hk⟩ := hF
  rw [h0] at hz hk
  exact ⟨by rw [e1]; exact hz, fun q h1 h2 => by rw [e1]; exact hk q h1 h2,
    ⟨Nat.le_trans hS.1 (by rw [e1]; exact hz), fun q h1 h2 => by rw [e1, hk q (Nat.lt_of_lt_of_le h1 hS.1) (fun z => h2 (hA q (Nat.lt_of_lt_of_le h1 hS.1) z))]; exact hS.2.1 q h1 h2, fun q hq => by
      rcases List.mem_append.mp hq with h | h
      · exact hS.2.2 q h
      · exact hf _ (hL q h)⟩⟩
theorem vx_calli {S SX : Type} {post : Int32 → S → Prop} {px : SX → Prop} {B : S → State → Prop} {BX : String → SX → State → Prop} {AX : Nat → Prop} (hr : vx_Run p l e R s m args below meth c H locs cells slots mc ms (F0 m pc ls st0) rest (va_Qi post B A1 a) (vx_X px BX AX) free) (hS : va_S A0 H0 H locs) (hA : ∀ q, q < H.size → A1 q → A0 q) (hf : ∀ q, free q → A0 q) (hAX : ∀ q, q < H.size → AX q → A0 q)
    (kx : ∀ (E : String) (ce : Cell) (q9 : Addr) (u : SX) (t : State) (H1 : Heap) (locs1 : List Loc), t.heap = H1 → s.vm.Alike t.vm → px u → BX E u t → H.size ≤ H1.size → (∀ q : Nat, q < H.size → ¬ AX q → H1[q]? = H[q]?) → va_S A0 H0 H1 locs1 → H1[q9]? = some ce → ce.vm = .none → s.vm.findClass E = some ce.cls → vx_W p l e R s m args below meth c H1 locs1 (cells + mc) (slots + ms) Q (F0 m pc ls rest) q9)
    (kk : ∀ (r : Int32) (u : S) (t : State) (H1 : Heap) (locs1 : List Loc), t.heap = H1 → s.vm.Alike t.vm → post r u → B u t → H.size ≤ H1.size → (∀ q : Nat, q < H.size → ¬ A1 q → H1[q]? = H[q]?) → va_S A0 H0 H1 locs1 → W p l e R s m args below meth c H1 locs1 (cells + mc) (slots + ms) Q (F0 m (pc + 3) ls (.int r :: rest))) : W p l e R s m args below meth c H locs cells slots Q (F0 m pc ls st0) := by
  intro T hT X
  rcases hr T hT X with ⟨v, st₀, t, T', L, h0, X', hL, e1, e2, ⟨⟨r, u, hv, hp, hb⟩, hF⟩, st⟩ | ⟨q, st₀, t, T', L, E, ce, h0, X', hL, e1, e2, ⟨u, hp, hb, hF⟩, hce, hcv, hcl, st⟩
  · cases hv
    obtain ⟨k1, k2, k3⟩ := vx_keep h0 e1 hS hA hf hL hF
    obtain ⟨t2, a1, b1⟩ := kk r u t T'.heap (locs ++ L) e1.symm (by rw [← e2]; exact X'.warmed.alike) hp hb k1 k2 k3 T' rfl X'
    exact ⟨t2, st t2 a1, b1⟩
  · obtain ⟨k1, k2, k3⟩ := vx_keep h0 e1 hS hAX hf hL hF
    obtain ⟨t2, a1, b1⟩ := kx E ce q u t T'.heap (locs ++ L) e1.symm (by rw [← e2]; exact X'.warmed.alike) hp hb k1 k2 k3 (by rw [e1]; exact hce) hcv hcl T' rfl X'
    exact ⟨t2, st.trans a1, b1⟩
theorem vx_calll {S SX : Type} {post : Int64 → S → Prop} {px : SX → Prop} {B : S → State → Prop} {BX : String → SX → State → Prop} {AX : Nat → Prop} (hr : vx_Run p l e R s m args below meth c H locs cells slots mc ms (F0 m pc ls st0) rest (va_Ql post B A1 a) (vx_X px BX AX) free) (hS : va_S A0 H0 H locs) (hA : ∀ q, q < H.size → A1 q → A0 q) (hf : ∀ q, free q → A0 q) (hAX : ∀ q, q < H.size → AX q → A0 q)
    (kx : ∀ (E : String) (ce : Cell) (q9 : Addr) (u : SX) (t : State) (H1 : Heap) (locs1 : List Loc), t.heap = H1 → s.vm.Alike t.vm → px u → BX E u t → H.size ≤ H1.size → (∀ q : Nat, q < H.size → ¬ AX q → H1[q]? = H[q]?) → va_S A0 H0 H1 locs1 → H1[q9]? = some ce → ce.vm = .none → s.vm.findClass E = some ce.cls → vx_W p l e R s m args below meth c H1 locs1 (cells + mc) (slots + ms) Q (F0 m pc ls rest) q9)
    (kk : ∀ (r : Int64) (u : S) (t : State) (H1 : Heap) (locs1 : List Loc), t.heap = H1 → s.vm.Alike t.vm → post r u → B u t → H.size ≤ H1.size → (∀ q : Nat, q < H.size → ¬ A1 q → H1[q]? = H[q]?) → va_S A0 H0 H1 locs1 → W p l e R s m args below meth c H1 locs1 (cells + mc) (slots + ms) Q (F0 m (pc + 3) ls (.long r :: rest))) : W p l e R s m args below meth c H locs cells slots Q (F0 m pc ls st0) := by
  intro T hT X
  rcases hr T hT X with ⟨v, st₀, t, T', L, h0, X', hL, e1, e2, ⟨⟨r, u, hv, hp, hb⟩, hF⟩, st⟩ | ⟨q, st₀, t, T', L, E, ce, h0, X', hL, e1, e2, ⟨u, hp, hb, hF⟩, hce, hcv, hcl, st⟩
  · cases hv
    obtain ⟨k1, k2, k3⟩ := vx_keep h0 e1 hS hA hf hL hF
    obtain ⟨t2, a1, b1⟩ := kk r u t T'.heap (locs ++ L) e1.symm (by rw [← e2]; exact X'.warmed.alike) hp hb k1 k2 k3 T' rfl X'
    exact ⟨t2, st t2 a1, b1⟩
  · obtain ⟨k1, k2, k3⟩ := vx_keep h0 e1 hS hAX hf hL hF
    obtain ⟨t2, a1, b1⟩ := kx E ce q u t T'.heap (locs ++ L) e1.symm (by rw [← e2]; exact X'.warmed.alike) hp hb k1 k2 k3 (by rw [e1]; exact hce) hcv hcl T' rfl X'
    exact ⟨t2, st.trans a1, b1⟩
theorem vx_callf {S SX : Type} {post : UInt32 → S → Prop} {px : SX → Prop} {B : S → State → Prop} {BX : String → SX → State → Prop} {AX : Nat → Prop} (hr : vx_Run p l e R s m args below meth c H locs cells slots mc ms (F0 m pc ls st0) rest (va_Qf post B A1 a) (vx_X px BX AX) free) (hS : va_S A0 H0 H locs) (hA : ∀ q, q < H.size → A1 q → A0 q) (hf : ∀ q, free q → A0 q) (hAX : ∀ q, q < H.size → AX q → A0 q)
    (kx : ∀ (E : String) (ce : Cell) (q9 : Addr) (u : SX) (t : State) (H1 : Heap) (locs1 : List Loc), t.heap = H1 → s.vm.Alike t.vm → px u → BX E u t → H.size ≤ H1.size → (∀ q : Nat, q < H.size → ¬ AX q → H1[q]? = H[q]?) → va_S A0 H0 H1 locs1 → H1[q9]? = some ce → ce.vm = .none → s.vm.findClass E = some ce.cls → vx_W p l e R s m args below meth c H1 locs1 (cells + mc) (slots + ms) Q (F0 m pc ls rest) q9)
    (kk : ∀ (r : UInt32) (u : S) (t : State) (H1 : Heap) (locs1 : List Loc), t.heap = H1 → s.vm.Alike t.vm → post r u → B u t → H.size ≤ H1.size → (∀ q : Nat, q < H.size → ¬ A1 q → H1[q]? = H[q]?) → va_S A0 H0 H1 locs1 → W p l e R s m args below meth c H1 locs1 (cells + mc) (slots + ms) Q (F0 m (pc + 3) ls (.float r :: rest))) : W p l e R s m args below meth c H locs cells slots Q (F0 m pc ls st0) := by
  intro T hT X
  rcases hr T hT X with ⟨v, st₀, t, T', L, h0, X', hL, e1, e2, ⟨⟨r, u, hv, hp, hb⟩, hF⟩, st⟩ | ⟨q, st₀, t, T', L, E, ce, h0, X', hL, e1, e2, ⟨u, hp, hb, hF⟩, hce, hcv, hcl, st⟩
  · cases hv
    obtain ⟨k1, k2, k3⟩ := vx_keep h0 e1 hS hA hf hL hF
    obtain ⟨t2, a1, b1⟩ := kk r u t T'.heap (locs ++ L) e1.symm (by rw [← e2]; exact X'.warmed.alike) hp hb k1 k2 k3 T' rfl X'
    exact ⟨t2, st t2 a1, b1⟩
  · obtain ⟨k1, k2, k3⟩ := vx_keep h0 e1 hS hAX hf hL hF
    obtain ⟨t2, a1, b1⟩ := kx E ce q u t T'.heap (locs ++ L) e1.symm (by rw [← e2]; exact X'.warmed.alike) hp hb k1 k2 k3 (by rw [e1]; exact hce) hcv hcl T' rfl X'
    exact ⟨t2, st.trans a1, b1⟩
theorem vx_calld {S SX : Type} {post : UInt64 → S → Prop} {px : SX → Prop} {B : S → State → Prop} {BX : String → SX → State → Prop} {AX : Nat → Prop} (hr : vx_Run p l e R s m args below meth c H locs cells slots mc ms (F0 m pc ls st0) rest (va_Qd post B A1 a) (vx_X px BX AX) free) (hS : va_S A0 H0 H locs) (hA : ∀ q, q < H.size → A1 q → A0 q) (hf : ∀ q, free q → A0 q) (hAX : ∀ q, q < H.size → AX q → A0 q)
    (kx : ∀ (E : String) (ce : Cell) (q9 : Addr) (u : SX) (t : State) (H1 : Heap) (locs1 : List Loc), t.heap = H1 → s.vm.Alike t.vm → px u → BX E u t → H.size ≤ H1.size → (∀ q : Nat, q < H.size → ¬ AX q → H1[q]? = H[q]?) → va_S A0 H0 H1 locs1 → H1[q9]? = some ce → ce.vm = .none → s.vm.findClass E = some ce.cls → vx_W p l e R s m args below meth c H1 locs1 (cells + mc) (slots + ms) Q (F0 m pc ls rest) q9)
    (kk : ∀ (r : UInt64) (u : S) (t : State) (H1 : Heap) (locs1 : List Loc), t.heap = H1 → s.vm.Alike t.vm → post r u → B u t → H.size ≤ H1.size → (∀ q : Nat, q < H.size → ¬ A1 q → H1[q]? = H[q]?) → va_S A0 H0 H1 locs1 → W p l e R s m args below meth c H1 locs1 (cells + mc) (slots + ms) Q (F0 m (pc + 3) ls (.double r :: rest))) : W p l e R s m args below meth c H locs cells slots Q (F0 m pc ls st0) := by
  intro T hT X
  rcases hr T hT X with ⟨v, st₀, t, T', L, h0, X', hL, e1, e2, ⟨⟨r, u, hv, hp, hb⟩, hF⟩, st⟩ | ⟨q, st₀, t, T', L, E, ce, h0, X', hL, e1, e2, ⟨u, hp, hb, hF⟩, hce, hcv, hcl, st⟩
  · cases hv
    obtain ⟨k1, k2, k3⟩ := vx_keep h0 e1 hS hA hf hL hF
    obtain ⟨t2, a1, b1⟩ := kk r u t T'.heap (locs ++ L) e1.symm (by rw [← e2]; exact X'.warmed.alike) hp hb k1 k2 k3 T' rfl X'
    exact ⟨t2, st t2 a1, b1⟩
  · obtain ⟨k1, k2, k3⟩ := vx_keep h0 e1 hS hAX hf hL hF
    obtain ⟨t2, a1, b1⟩ := kx E ce q u t T'.heap (locs ++ L) e1.symm (by rw [← e2]; exact X'.warmed.alike) hp hb k1 k2 k3 (by rw [e1]; exact hce) hcv hcl T' rfl X'
    exact ⟨t2, st.trans a1, b1⟩
theorem vx_callv {S SX : Type} {post : S → Prop} {px : SX → Prop} {B : S → State → Prop} {BX : String → SX → State → Prop} {AX : Nat → Prop} (hr : vx_Run p l e R s m args below meth c H locs cells slots mc ms (F0 m pc ls st0) rest (va_Qv post B A1 a) (vx_X px BX AX) free) (hS : va_S A0 H0 H locs) (hA : ∀ q, q < H.size → A1 q → A0 q) (hf : ∀ q, free q → A0 q) (hAX : ∀ q, q < H.size → AX q → A0 q)
    (kx : ∀ (E : String) (ce : Cell) (q9 : Addr) (u : SX) (t : State) (H1 : Heap) (locs1 : List Loc), t.heap = H1 → s.vm.Alike t.vm → px u → BX E u t → H.size ≤ H1.size → (∀ q : Nat, q < H.size → ¬ AX q → H1[q]? = H[q]?) → va_S A0 H0 H1 locs1 → H1[q9]? = some ce → ce.vm = .none → s.vm.findClass E = some ce.cls → vx_W p l e R s m args below meth c H1 locs1 (cells + mc) (slots + ms) Q (F0 m pc ls rest) q9)
    (kk : ∀ (u : S) (t : State) (H1 : Heap) (locs1 : List Loc), t.heap = H1 → s.vm.Alike t.vm → post u → B u t → H.size ≤ H1.size → (∀ q : Nat, q < H.size → ¬ A1 q → H1[q]? = H[q]?) → va_S A0 H0 H1 locs1 → W p l e R s m args below meth c H1 locs1 (cells + mc) (slots + ms) Q (F0 m (pc + 3) ls (rest))) : W p l e R s m args below meth c H locs cells slots Q (F0 m pc ls st0) := by
  intro T hT X
  rcases hr T hT X with ⟨v, st₀, t, T', L, h0, X', hL, e1, e2, ⟨⟨u, hv, hp, hb⟩, hF⟩, st⟩ | ⟨q, st₀, t, T', L, E, ce, h0, X', hL, e1, e2, ⟨u, hp, hb, hF⟩, hce, hcv, hcl, st⟩
  · cases hv
    obtain ⟨k1, k2, k3⟩ := vx_keep h0 e1 hS hA hf hL hF
    obtain ⟨t2, a1, b1⟩ := kk u t T'.heap (locs ++ L) e1.symm (by rw [← e2]; exact X'.warmed.alike) hp hb k1 k2 k3 T' rfl X'
    exact ⟨t2, st t2 a1, b1⟩
  · obtain ⟨k1, k2, k3⟩ := vx_keep h0 e1 hS hAX hf hL hF
    obtain ⟨t2, a1, b1⟩ := kx E ce q u t T'.heap (locs ++ L) e1.symm (by rw [← e2]; exact X'.warmed.alike) hp hb k1 k2 k3 (by rw [e1]; exact hce) hcv hcl T' rfl X'
    exact ⟨t2, st.trans a1, b1⟩
/-- caught by the row x of this method's table; the rows ahead don't take it -/
theorem vx_catch {own name : String} {E : String} {ce : Cell} {q : Addr} (hown : s.vm.findClass own = some m.cls) (pre : List ExceptionTableEntry) (x : ExceptionTableEntry) (suf : List ExceptionTableEntry) (hsplit : c.exceptionTable.toList = pre ++ x :: suf)
    (hpass : ∀ z ∈ pre, covers z pc = false ∨ (z.catchType ≠ 0 ∧ ∃ nm : String, (Cond.classLink own z.catchType nm).before args s = true ∧ va_Nc E nm s)) (hx : covers x pc = true) (h0 : x.catchType ≠ 0)
    (hlink : (Cond.classLink own x.catchType name).before args s = true) (hcast : (Cond.castable E name).before args s = true) (hcell : H[q]? = some ce) (hv : ce.vm = .none) (hcl : s.vm.findClass E = some ce.cls)
    (kk : W p l e R s m args below meth c H locs cells slots Q (F0 m x.handlerPc ls [.ref q])) : vx_W p l e R s m args below meth c H locs cells slots Q (F0 m pc ls rest) q := by
  intro T hT X
  have hpl : e.platform.magicAccessors = ({} : Platform).magicAccessors := by rw [X.admits.platform]
  obtain ⟨c3, c4, hc3, hc4, hasg⟩ := Cond.castable_spec hcast
  cases Option.some.inj (hc3.symm.trans hcl)
  obtain ⟨c5, hc5, hcl5⟩ := Cond.classLink_spec hown hlink e.platform hpl
  cases Option.some.inj (hc4.symm.trans hc5)
  obtain ⟨vm', X', st⟩ := X.thenCaughtThrough q (g := F0 m pc ls rest) rfl (Steps.refl _) (by rw [hT]; exact hcell) (by rw [hv]; rfl) (by obtain ⟨k9, h9, -⟩ := Vm.findClass_spec hcl; exact ⟨k9, h9⟩) pre x suf hsplit
    (fun z hz => by
      rcases hpass z hz with h | ⟨hz0, nm, hl1, hn1⟩
      · exact Or.inl h
      · obtain ⟨c6, hc6, hcl6⟩ := Cond.classLink_spec hown hl1 e.platform hpl
        obtain ⟨a8, b8, h1, h2, h3⟩ := hn1
        cases Option.some.inj (h1.symm.trans hcl)
        cases Option.some.inj (h2.symm.trans hc6)
        exact Or.inr ⟨hz0, _, hcl6, h3⟩) hx (Or.inr ⟨h0, c4, hcl5, hasg⟩)
  obtain ⟨t, a1, b1⟩ := kk (T.setVm vm') hT X'
  exact ⟨t, st.trans a1, b1⟩
end Rows
section Ends
variable {p : Program} {l : Launch} {e : Env} {R : Room} {s : State} {m : MethodId} {args : Array Value} {below : List Frame} {meth : Method} {c : Code} {H : Heap} {locs : List Loc} {cells slots : Nat} {Q : State → Prop}
variable {mc ms : Nat} {free : Addr → Prop} {A0 A1 : Nat → Prop} {H0 : Heap} {a : Array Value} {ls : Array Slot} {st0 rest : List Value}
variable {Qc : Array Value → State → Outcome → State → Prop} {XC : String → State → State → Prop}
/-- what a body that may throw owes at its end -/
def vx_MQ (below : List Frame) (Qc : Array Value → State → Outcome → State → Prop) (XC : String → State → State → Prop) (a : Array Value) (s : State) (mc ms : Nat) (free : Addr → Prop) : State → Prop := fun t =>
  ∃ o, t.status = .running ∧ Ended t below o ∧ vx_Q Qc XC mc ms free a s o t
theorem vx_ret {g : JFrame} {mc ms : Nat} (k : W p l e R s m args below meth c H locs cells slots (MQ below Qc args s mc ms free) g) : W p l e R s m args below meth c H locs cells slots (vx_MQ below Qc XC args s mc ms free) g := by
  intro T hT X
  obtain ⟨t, a1, o, b1, b2, b3, b4⟩ := k T hT X
  exact ⟨t, a1, o, b1, b2, Or.inl ⟨b3, b4⟩⟩
/-- not caught here: it goes on to the caller -/
theorem vx_widen {g : JFrame} {q : Addr} {k n : Nat} (h1 : cells ≤ k) (h2 : slots ≤ n) (kk : vx_W p l e R s m args below meth c H locs k n Q g q) : vx_W p l e R s m args below meth c H locs cells slots Q g q := fun T hT X => kk T hT (stand_widen X h1 h2)
theorem vx_out {pc : Nat} {E : String} {ce : Cell} {q : Addr} {mc ms : Nat} (hout : ∀ x ∈ c.exceptionTable.toList, covers x pc = false) (hlocks : meth.locks = false) (hcell : H[q]? = some ce) (hv : ce.vm = .none) (hcl : s.vm.findClass E = some ce.cls)
    (hx : ∀ t : State, t.heap = H → s.vm.Alike t.vm → XC E s t) (hf : ∀ z ∈ locs, free z.base) (hc : cells ≤ mc) (hs : slots ≤ ms) :
    vx_W p l e R s m args below meth c H locs cells slots (vx_MQ below Qc XC args s mc ms free) (F0 m pc ls rest) q := by
  intro T hT X
  obtain ⟨st1, hrun, hend, hW, hsm⟩ := X.leaveThrown q (g := F0 m pc ls rest) rfl rfl rfl hout hlocks
  have hcell9 : (T.setFrames (.throwing q :: below)).heap[q]? = some ce := by
    show T.heap[q]? = some ce
    rw [hT]; exact hcell
  exact ⟨_, st1, .threw q, hrun, hend, Or.inr ⟨q, rfl, E, ce, locs, hx _ hT hW.alike, hcell9, hv, hcl, hW, hsm.mono hc hs, hf⟩⟩
theorem vx_frame {U : State} {k n : Nat} (h : s.sameButNew ({ U with vm := s.vm } : State) locs k n) : s.heap.size ≤ U.heap.size ∧ ∀ q : Nat, q < s.heap.size → (∀ z ∈ locs, z.base ≠ q) → U.heap[q]? = s.heap[q]? := by
  obtain ⟨-, h2, -, -, -, h6⟩ := h
  refine ⟨h2, fun q hq hz => ?_⟩
  obtain ⟨c9, e1, e2, e3, e4⟩ := h6 q _ (Array.getElem?_eq_getElem hq)
  have hs : c9.slots = (s.heap[q]).slots := Array.ext_getElem? fun i => e4 i fun hm => hz _ hm rfl
  have h9 : c9 = s.heap[q] := by
    rw [hs] at e2
    exact e2
  have e5 : U.heap[q]? = some c9 := e1
  rw [e5, h9, Array.getElem?_eq_getElem hq]
/-- the words of a throw but the four that speak of the heap -/
def vx_no (w : Cond) : Bool := decide (w ≠ .isRef (.static Bundle.tN "UNASSIGNED_STACK" Bundle.steD)) && decide (w ≠ .isRef (.static Bundle.tN "SUPPRESSED_SENTINEL" Bundle.listD)) && decide (w ≠ .laysStatic Bundle.tN "UNASSIGNED_STACK" Bundle.steD) && decide (w ≠ .laysStatic Bundle.tN "SUPPRESSED_SENTINEL" Bundle.listD)
def vx_at0 (own : String) (ic : Nat) (X : String) (names : List String) : List Cond := (Bundle.ownAtoms0 own ic X names).filter vx_no
def vx_atS (own : String) (ic : Nat) (X : String) (names : List String) : List Cond := (Bundle.ownAtoms own ic X names).filter vx_no
/-- a word that the tables alone decide, or a good one -/
def vx_ot (w : Cond) : Bool := w.onTables || goodWord w
theorem vx_ot_at {args a' : Array Value} {s U : State} {w : Cond} (hW : s.WarmedH U.vm) (hvm : s.vm = U.vm) (hg : vx_ot w = true) (h : w.before args s = true) : w.before a' U = true := by
  simp only [vx_ot, Bool.or_eq_true] at hg
  rcases hg with hg | hg
  · exact va_tabs hg hvm h
  · exact word_at hW (good_of_word hg) h
/-- a list's words: the good ones out of the method's own list, the others by premises of their own -/
theorem vx_hat {args : Array Value} {s : State} {L B : List Cond} (h1 : ∀ w ∈ L.filter goodWord, w.before args s = true) (h2 : ∀ w ∈ L.filter (fun w => !goodWord w), w ∈ B) (h3 : ∀ w ∈ B, w.before args s = true) : ∀ w ∈ L, w.before args s = true := by
  intro w hw
  by_cases g : goodWord w = true
  · exact h1 w (List.mem_filter.mpr ⟨hw, g⟩)
  · refine h3 w (h2 w (List.mem_filter.mpr ⟨hw, ?_⟩))
    show (!goodWord w) = true
    cases hgw : goodWord w
    · rfl
    · exact absurd hgw g
theorem vx_c {args : Array Value} {s : State} {w : Cond} {B : List Cond} (h : w.before args s = true) (t : ∀ w ∈ B, w.before args s = true) : ∀ w' ∈ w :: B, w'.before args s = true := fun w' h' => (List.mem_cons.mp h').elim (fun e => by rw [e]; exact h) (t w')
theorem vx_n {args : Array Value} {s : State} : ∀ w ∈ ([] : List Cond), w.before args s = true := fun _ h => nomatch h
theorem vx_own {args : Array Value} {s : State} {L : List Cond} (h1 : ∀ w ∈ L.filter vx_no, w.before args s = true)
    (hU : (Cond.isRef (.static Bundle.tN "UNASSIGNED_STACK" Bundle.steD)).before args s = true) (hN : (Cond.isRef (.static Bundle.tN "SUPPRESSED_SENTINEL" Bundle.listD)).before args s = true)
    (lU : (Cond.laysStatic Bundle.tN "UNASSIGNED_STACK" Bundle.steD).before args s = true) (lN : (Cond.laysStatic Bundle.tN "SUPPRESSED_SENTINEL" Bundle.listD).before args s = true) : ∀ w ∈ L, w.before args s = true := by
  intro w hw
  by_cases e1 : w = .isRef (.static Bundle.tN "UNASSIGNED_STACK" Bundle.steD)
  · rw [e1]; exact hU
  · by_cases e2 : w = .isRef (.static Bundle.tN "SUPPRESSED_SENTINEL" Bundle.listD)
    · rw [e2]; exact hN
    · by_cases e3 : w = .laysStatic Bundle.tN "UNASSIGNED_STACK" Bundle.steD
      · rw [e3]; exact lU
      · by_cases e4 : w = .laysStatic Bundle.tN "SUPPRESSED_SENTINEL" Bundle.listD
        · rw [e4]; exact lN
        · exact h1 w (List.mem_filter.mpr ⟨hw, by unfold vx_no; rw [decide_eq_true e1, decide_eq_true e2, decide_eq_true e3, decide_eq_true e4]; rfl⟩)
/-- where a static field lies, its class's statics cell in H -/
def vx_L (C n d : String) (A : Nat → Prop) (U : State) (H : Heap) : Prop := ∃ (c : ClassId) (k : Class) (i : Nat) (f : Field) (a : Nat) (cell : Cell), U.vm.findClass C = some c ∧ U.fieldFound? C n d = some (c, k, i, f) ∧ f.isStatic = true ∧ k.statics = some a ∧ H[a]? = some cell ∧ cell.vm.isStatics = true ∧ cell.cls = c ∧ f.slot < cell.slots.size ∧ k.staticTypes[f.slot]? = some f.type ∧ ¬ A a
theorem vx_L.moved {C n d : String} {A : Nat → Prop} {u U : State} {H : Heap} (hvm : u.vm.Alike U.vm) (h : vx_L C n d A u H) : vx_L C n d A U H := by
  obtain ⟨c, k, i, f, a, cell, h1, h2, h3, h4, h5, h6, h7, h8, h9, h10⟩ := h
  obtain ⟨k', hi', he⟩ := State.fieldFound?_setVm hvm h2
  exact ⟨c, k', i, f, a, cell, by rw [hvm.findClass]; exact h1, hi', h3, by rw [he]; exact h4, h5, h6, h7, h8, by rw [he]; exact h9, h10⟩
theorem vx_L.kept {C n d : String} {A : Nat → Prop} {U : State} {H H1 : Heap} (h : vx_L C n d A U H) (hq : ∀ a : Nat, a < H.size → ¬ A a → H1[a]? = H[a]?) : vx_L C n d A U H1 := by
  obtain ⟨c, k, i, f, a, cell, h1, h2, h3, h4, h5, h6, h7, h8, h9, h10⟩ := h
  exact ⟨c, k, i, f, a, cell, h1, h2, h3, h4, by rw [hq a (Array.getElem?_eq_some_iff.mp h5).1 h10]; exact h5, h6, h7, h8, h9, h10⟩
theorem vx_L.narrow {C n d : String} {A B : Nat → Prop} {U : State} {H : Heap} (h : vx_L C n d A U H) (hAB : ∀ q, B q → A q) : vx_L C n d B U H := by
  obtain ⟨c, k, i, f, a, cell, h1, h2, h3, h4, h5, h6, h7, h8, h9, h10⟩ := h
  exact ⟨c, k, i, f, a, cell, h1, h2, h3, h4, h5, h6, h7, h8, h9, fun z => h10 (hAB _ z)⟩
theorem vx_L.word {C n d : String} {A : Nat → Prop} {s : State} {args : Array Value} (h : vx_L C n d A s s.heap) : (Cond.laysStatic C n d).before args s = true := by
  obtain ⟨c, k, i, f, a, cell, h1, h2, h3, h4, h5, h6, h7, h8, h9, -⟩ := h
  show (Cond.laysStatic C n d).holds args s none s [] = true
  exact Cond.laysStatic_of h1 h2 h3 h4 h5 h6 h7 h8 h9
/-- .. and what it holds: null or some reference -/
def vx_Zq (C n d : String) (A : Nat → Prop) (U : State) (H : Heap) : Prop := va_Zq C n d A U H ∧ vx_L C n d A U H
theorem vx_Zq.moved {C n d : String} {A : Nat → Prop} {u U : State} {H : Heap} (hvm : u.vm.Alike U.vm) (h : vx_Zq C n d A u H) : vx_Zq C n d A U H := ⟨va_Zq.moved hvm h.1, vx_L.moved hvm h.2⟩
theorem vx_Zq.kept {C n d : String} {A : Nat → Prop} {U : State} {H H1 : Heap} (h : vx_Zq C n d A U H) (hq : ∀ a : Nat, a < H.size → ¬ A a → H1[a]? = H[a]?) : vx_Zq C n d A U H1 := ⟨va_Zq.kept h.1 hq, vx_L.kept h.2 hq⟩
theorem vx_Zq.narrow {C n d : String} {A B : Nat → Prop} {U : State} {H : Heap} (h : vx_Zq C n d A U H) (hAB : ∀ q, B q → A q) : vx_Zq C n d B U H := ⟨va_Zq.narrow h.1 hAB, vx_L.narrow h.2 hAB⟩
theorem vx_Zqof {args : Array Value} {s : State} {C n d : String} {A : Nat → Prop} (hl : (Cond.laysStatic C n d).before args s = true) (hini : (Cond.initialized C).before args s = true) (h : (Cond.isRef (.static C n d)).before args s = true) (hA : ∀ a : Nat, a < s.heap.size → ¬ A a) : vx_Zq C n d A s s.heap := by
  refine ⟨va_Zqof hl hini h hA, ?_⟩
  obtain ⟨c, k, i, f, a, cell, h1, h2, h3, h4, h5, h6, h7, h8, h9⟩ := Cond.laysStatic_spec hl
  exact ⟨c, k, i, f, a, cell, h1, h2, h3, h4, h5, h6, h7, h8, h9, hA a (Array.getElem?_eq_some_iff.mp h5).1⟩
theorem vx_isRef {C n d : String} {v : Value} {A : Nat → Prop} {s : State} {args : Array Value} (h : va_Z C n d v A s s.heap) (hv : v.isRef = true) : (Cond.isRef (.static C n d)).before args s = true := by
  obtain ⟨cf, kf, fi, f, a, cell, h1, h2, h3, h4, h5, h6, h7, -⟩ := h
  have he : (Term.static C n d).eval args s none [] s = some v := by
    simp [Term.eval, State.fieldNamed?, h1, h2, h4, h5, h6, h7]
  simp only [Cond.before, Cond.holds, Cond.value, he]
  cases v <;> simp_all [Value.isRef]
theorem vx_isRefq {C n d : String} {A : Nat → Prop} {s : State} {args : Array Value} (h : va_Zq C n d A s s.heap) : (Cond.isRef (.static C n d)).before args s = true := by
  rcases h with h | ⟨t, h⟩
  · exact vx_isRef h rfl
  · exact vx_isRef h rfl
/-- the same frame, seen from here: as if the method were called anew in this heap -/
theorem vx_rebase {T : State} (X : Stand p l e R s m args below meth c T locs cells slots) {R' : Room} (hf : R'.frames ≤ R.frames) (hl : R'.locals ≤ R.locals) (hc : cells + R'.cells ≤ R.cells) (hs : slots + R'.slots ≤ R.slots) :
    Stand p l e R' ((T.setVm s.vm).setFrames (.invoking m args :: below)) m args below meth c T [] 0 0 := by
  have htop : (T.setVm s.vm).topJava?.isSome := X.here.top
  have hF : ((T.setVm s.vm).setFrames (.invoking m args :: below)).frames = .invoking m args :: below := State.frames_setFrames _ (State.cur_lt_of_top htop)
  obtain ⟨g₀, hg0⟩ := Option.isSome_iff_exists.mp htop
  obtain ⟨r, hr⟩ := State.topJava?_eq_some.mp hg0
  have hl9 : e.platform.stackLimits (T.setVm s.vm).me = e.platform.stackLimits s.me := X.limits
  have hb9 : (T.setVm s.vm).me.stackBytes = s.me.stackBytes := X.bytes
  refine ⟨X.admits, X.cas, X.clock, hF, ?_, X.hears, X.method, X.code, X.here, X.tail, X.warmed, ?_, ?_, ?_⟩
  · have h := X.room
    have hU : ((T.setVm s.vm).setFrames (.invoking m args :: below)).localsInUse = s.localsInUse := by
      rw [State.localsInUse_invoking hF (meth := meth) (c := c) X.method X.code, State.localsInUse_invoking X.frames X.method X.code]
    simp only [State.hasRoom, Bool.and_eq_true, decide_eq_true_eq] at h ⊢
    obtain ⟨⟨⟨⟨h1, h2, h3, h4, h5, h6⟩, h7⟩, h8⟩, h9⟩ := h
    rw [X.frames, List.length_cons] at h2 h3
    have q1 := X.heapSize
    have q2 := X.used
    simp only [hF, hU, List.length_cons, State.stackLimits_setFrames, State.stackBytes_setFrames, hl9, hb9]
    refine ⟨⟨⟨⟨by omega, by omega, by omega, by omega, by omega, h6⟩, ?_⟩, ?_⟩, X.book⟩
    · show T.heap.size + R'.cells ≤ e.platform.maxCells
      omega
    · show T.slotsUsed + R'.slots ≤ e.platform.maxSlots
      omega
  · rw [State.stackLimits_setFrames]; rfl
  · rw [State.stackBytes_setFrames]; rfl
  · refine ⟨?_, Nat.le_refl _, Nat.le_refl _, ?_, ?_, fun a c9 h9 => ⟨c9, h9, rfl, rfl, fun _ _ => rfl⟩⟩
    · obtain ⟨t, ht, -⟩ := State.frames_cons hr
      show T.setVm s.vm = { ((T.setVm s.vm).setFrames (.invoking m args :: below)).setFrames (T.setVm s.vm).frames with heap := T.heap, slotsUsed := T.slotsUsed }
      rw [State.setFrames_setFrames, State.setFrames_self ht]
      rfl
    · show T.slotsUsed = T.slotsUsed + ((T.heap.toList.drop T.heap.size).map (·.slots.size)).sum
      rw [List.drop_eq_nil_of_le (Nat.le_of_eq Array.length_toList)]
      rfl
    · show ((T.heap.toList.drop T.heap.size).map (·.slots.size)).sum ≤ 0
      rw [List.drop_eq_nil_of_le (Nat.le_of_eq Array.length_toList)]
      exact Nat.le_refl _
/-- 'throw new E()': new; dup; invokespecial; athrow -/
theorem vx_throw0 {cc : ByteArray} {pc : Nat} (hexec : p.tables.exec = Jvm.exec) (hb : c.code = cc) (hl : l.stackTraces = false) {own cls : String} {names : List String} {ik ic mc ms : Nat} {A : Nat → Prop}
    (hown : s.vm.findClass own = some m.cls) (hcls : Bundle.fit cls = true) (hnames : ∀ n ∈ names, Bundle.fit n = true)
    (hk : (Cond.classLink own ik cls).before args s = true) (hini : (Cond.initialized cls).before args s = true) (hat : ∀ w ∈ vx_at0 own ic cls names, w.before args s = true)
    (hgood : ∀ w ∈ Cond.classLink own ik cls :: Cond.initialized cls :: vx_at0 own ic cls names, vx_ot w = true)
    (hU : vx_Zq Bundle.tN "UNASSIGNED_STACK" Bundle.steD A s s.heap) (hN : vx_Zq Bundle.tN "SUPPRESSED_SENTINEL" Bundle.listD A s s.heap) (hS : va_S A s.heap H locs) (hsize : ls.size = c.maxLocals)
    (d0 : decode cc pc = .ok (.new ik, 3)) (d3 : decode cc (pc + 3) = .ok (.dup, 1)) (d4 : decode cc (pc + 4) = .ok (.invokespecial ic, 3)) (d7 : decode cc (pc + 7) = .ok (.athrow, 1))
    (hout : ∀ x ∈ c.exceptionTable.toList, covers x (pc + 7) = false)
    (hRframes : names.length + 3 < R.frames) (hRlocals : (rest.map fun v => v.category).sum + (13 * (names.length + 1) + 42) ≤ R.locals) (hRcells : cells + 1 ≤ R.cells) (hRslots : slots + 6 ≤ R.slots) (hlocks : meth.locks = false)
    (hx : ∀ t : State, s.vm.Alike t.vm → H.size ≤ t.heap.size → (∀ q : Nat, q < H.size → t.heap[q]? = H[q]?) → XC cls s t)
    (hf : ∀ z ∈ locs, free z.base) (hc : cells + 1 ≤ mc) (hs : slots + 6 ≤ ms) :
    W p l e R s m args below meth c H locs cells slots (vx_MQ below Qc XC args s mc ms free) (F0 m pc ls rest) := by
  intro T hT X
  have htr : e.platform.stackTraces = false := (show e.platform.stackTraces = l.stackTraces by rw [X.admits.platform]).trans hl
  have Y := vx_rebase X (R' := { frames := R.frames, locals := R.locals, cells := 1, slots := 6 }) (Nat.le_refl _) (Nat.le_refl _) hRcells hRslots
  obtain ⟨s', hA⟩ : ∃ z, z = (T.setVm s.vm).setFrames (.invoking m args :: below) := ⟨_, rfl⟩
  rw [← hA] at Y
  have hvm : s'.vm = s.vm := by rw [hA]; rfl
  have hhp : s'.heap = H := by rw [hA]; exact hT
  have hW0 : s.WarmedH s'.vm := by rw [hvm]; exact State.WarmedH.refl s
  have hat' : ∀ w ∈ vx_at0 own ic cls names, w.before args s' = true := fun w hw => vx_ot_at hW0 hvm.symm (hgood w (List.mem_cons_of_mem _ (List.mem_cons_of_mem _ hw))) (hat w hw)
  have hk' : (Cond.classLink own ik cls).before args s' = true := vx_ot_at hW0 hvm.symm (hgood _ List.mem_cons_self) hk
  have hini' : (Cond.initialized cls).before args s' = true := vx_ot_at hW0 hvm.symm (hgood _ (List.mem_cons_of_mem _ List.mem_cons_self)) hini
  have hU' : vx_Zq Bundle.tN "UNASSIGNED_STACK" Bundle.steD A s' s'.heap := by rw [hhp]; exact vx_Zq.moved hW0.alike (hU.kept hS.2.1)
  have hN' : vx_Zq Bundle.tN "SUPPRESSED_SENTINEL" Bundle.listD A s' s'.heap := by rw [hhp]; exact vx_Zq.moved hW0.alike (hN.kept hS.2.1)
  have h : ∀ w ∈ Bundle.ownAtoms0 own ic cls names, w.before args s' = true := vx_own hat' (vx_isRefq hU'.1) (vx_isRefq hN'.1) hU'.2.word hN'.2.word
  have hown' : s'.vm.findClass own = some m.cls := by rw [hvm]; exact hown
  have hins : (Cond.instantiable cls 6).before args s' = true := h _ (by simp [Bundle.ownAtoms0])
  obtain ⟨vm₁, cX, kX, hfX, hkX, -, -, X₁, st1⟩ := Y.newCold hexec (own := own) (C := cls) (index := ik) (n := 6) hown' hk' hins hini'
    (g := F0 m pc ls rest) rfl (by rw [hb]; exact d0) (Nat.le_refl _) (Nat.le_refl _)
  generalize hT1 : (T.setVm vm₁).pushCell { cls := cX, slots := kX.instanceTypes.map defaultValue, vm := .none } = T1 at X₁ st1
  have hcat : (Value.ref T.heap.size).category = 1 := rfl
  have hcellA : T1.heap[T.heap.size]? = some (freshCell cX kX) := by rw [← hT1]; exact State.heap_pushCell_size _ _
  have d3' : decode c.code (pc + 3) = .ok (.dup, 1) := by rw [hb]; exact d3
  obtain ⟨U, hsteps, hrun, hend, hW, hsame, ce, hce, hO⟩ := X₁.ctorThrow0 hexec htr (own := own) (cls := cls) (names := names) (ic := ic) hown' hcls hnames h (fun x hx => nomatch hx) hfX hkX hcellA (by rw [hhp, hT]; exact Nat.le_refl _)
    (g := { method := m, pc := pc + 4, locals := ls, stack := .ref T.heap.size :: .ref T.heap.size :: rest, locked := none }) rfl hsize rfl rfl (rest := rest) rfl
    (by rw [hb]; exact d4) (by rw [hb]; exact d7) hout hRframes (by simp only [List.map_cons, List.sum_cons, hcat]; omega) hlocks
  obtain ⟨f1, f2⟩ := vx_frame hsame
  rw [hhp] at f1 f2
  have hWs : s.WarmedH U.vm := State.WarmedH.trans hW0 hW
  have hcl : s.vm.findClass cls = some ce.cls := by
    have h9 := hO.cls
    rw [hvm] at h9
    exact h9
  have hall : s.sameButNew ({ U with vm := s.vm } : State) locs mc ms := by
    subst hA
    obtain ⟨e1, e2⟩ := hsame
    rw [State.setFrames_setFrames] at e1
    have h2 : (T.setVm s.vm).sameButNew ({ U with vm := s.vm } : State) [] (0 + 1) (0 + 6) := ⟨e1, e2⟩
    have h3 := X.same.trans h2
    rw [List.append_nil] at h3
    exact h3.mono hc hs
  refine ⟨U, ?_, .threw T.heap.size, hrun, hend, Or.inr ⟨T.heap.size, rfl, cls, ce, locs, hx U hWs.alike f1 (fun q hq => f2 q hq (fun z hz => nomatch hz)), hce, hO.vm, hcl, hWs, hall, hf⟩⟩
  refine st1 _ ?_
  show Steps p.tables e below (T1.setTop { method := m, pc := pc + 3, locals := ls, stack := .ref T.heap.size :: rest, locked := none }) _
  jvm_step X₁.here [X₁.here.top, hexec, d3', Value.category]
  exact hsteps
/-- 'throw new E("text")': new; dup; ldc; invokespecial; athrow -/
theorem vx_throwS {cc : ByteArray} {pc : Nat} (hexec : p.tables.exec = Jvm.exec) (hb : c.code = cc) (hl : l.stackTraces = false) {own cls text : String} {names : List String} {ik is ic mc ms sa : Nat} {A : Nat → Prop}
    (hown : s.vm.findClass own = some m.cls) (hcls : Bundle.fit cls = true) (hnames : ∀ n ∈ names, Bundle.fit n = true)
    (hk : (Cond.classLink own ik cls).before args s = true) (hini : (Cond.initialized cls).before args s = true) (hstr : vk_R own is text sa s) (hat : ∀ w ∈ vx_atS own ic cls names, w.before args s = true)
    (hgood : ∀ w ∈ Cond.classLink own ik cls :: Cond.initialized cls :: vx_atS own ic cls names, vx_ot w = true)
    (hU : vx_Zq Bundle.tN "UNASSIGNED_STACK" Bundle.steD A s s.heap) (hN : vx_Zq Bundle.tN "SUPPRESSED_SENTINEL" Bundle.listD A s s.heap) (hS : va_S A s.heap H locs) (hsize : ls.size = c.maxLocals)
    (d0 : decode cc pc = .ok (.new ik, 3)) (d3 : decode cc (pc + 3) = .ok (.dup, 1)) (d4 : decode cc (pc + 4) = .ok (.ldc is, 2)) (d6 : decode cc (pc + 6) = .ok (.invokespecial ic, 3)) (d9 : decode cc (pc + 9) = .ok (.athrow, 1))
    (hout : ∀ x ∈ c.exceptionTable.toList, covers x (pc + 9) = false)
    (hRframes : names.length + 3 < R.frames) (hRlocals : (rest.map fun v => v.category).sum + (13 * (names.length + 1) + 43) ≤ R.locals) (hRcells : cells + 1 ≤ R.cells) (hRslots : slots + 6 ≤ R.slots) (hlocks : meth.locks = false)
    (hx : ∀ t : State, s.vm.Alike t.vm → H.size ≤ t.heap.size → (∀ q : Nat, q < H.size → t.heap[q]? = H[q]?) → XC cls s t)
    (hf : ∀ z ∈ locs, free z.base) (hc : cells + 1 ≤ mc) (hs : slots + 6 ≤ ms) :
    W p l e R s m args below meth c H locs cells slots (vx_MQ below Qc XC args s mc ms free) (F0 m pc ls rest) := by
  intro T hT X
  have htr : e.platform.stackTraces = false := (show e.platform.stackTraces = l.stackTraces by rw [X.admits.platform]).trans hl
  have Y := vx_rebase X (R' := { frames := R.frames, locals := R.locals, cells := 1, slots := 6 }) (Nat.le_refl _) (Nat.le_refl _) hRcells hRslots
  obtain ⟨s', hA⟩ : ∃ z, z = (T.setVm s.vm).setFrames (.invoking m args :: below) := ⟨_, rfl⟩
  rw [← hA] at Y
  have hvm : s'.vm = s.vm := by rw [hA]; rfl
  have hhp : s'.heap = H := by rw [hA]; exact hT
  have hW0 : s.WarmedH s'.vm := by rw [hvm]; exact State.WarmedH.refl s
  have hat' : ∀ w ∈ vx_atS own ic cls names, w.before args s' = true := fun w hw => vx_ot_at hW0 hvm.symm (hgood w (List.mem_cons_of_mem _ (List.mem_cons_of_mem _ hw))) (hat w hw)
  have hk' : (Cond.classLink own ik cls).before args s' = true := vx_ot_at hW0 hvm.symm (hgood _ List.mem_cons_self) hk
  have hini' : (Cond.initialized cls).before args s' = true := vx_ot_at hW0 hvm.symm (hgood _ (List.mem_cons_of_mem _ List.mem_cons_self)) hini
  have hU' : vx_Zq Bundle.tN "UNASSIGNED_STACK" Bundle.steD A s' s'.heap := by rw [hhp]; exact vx_Zq.moved hW0.alike (hU.kept hS.2.1)
  have hN' : vx_Zq Bundle.tN "SUPPRESSED_SENTINEL" Bundle.listD A s' s'.heap := by rw [hhp]; exact vx_Zq.moved hW0.alike (hN.kept hS.2.1)
  have h : ∀ w ∈ Bundle.ownAtoms own ic cls names, w.before args s' = true := vx_own hat' (vx_isRefq hU'.1) (vx_isRefq hN'.1) hU'.2.word hN'.2.word
  have hown' : s'.vm.findClass own = some m.cls := by rw [hvm]; exact hown
  have hins : (Cond.instantiable cls 6).before args s' = true := h _ (by simp [Bundle.ownAtoms])
  obtain ⟨vm₁, cX, kX, hfX, hkX, -, -, X₁, st1⟩ := Y.newCold hexec (own := own) (C := cls) (index := ik) (n := 6) hown' hk' hins hini'
    (g := F0 m pc ls rest) rfl (by rw [hb]; exact d0) (Nat.le_refl _) (Nat.le_refl _)
  generalize hT1 : (T.setVm vm₁).pushCell { cls := cX, slots := kX.instanceTypes.map defaultValue, vm := .none } = T1 at X₁ st1
  have hcat : (Value.ref T.heap.size).category = 1 := rfl
  have hcellA : T1.heap[T.heap.size]? = some (freshCell cX kX) := by rw [← hT1]; exact State.heap_pushCell_size _ _
  have d3' : decode c.code (pc + 3) = .ok (.dup, 1) := by rw [hb]; exact d3
  have d4' : decode c.code (pc + 4) = .ok (.ldc is, 2) := by rw [hb]; exact d4
  have hstr' : vk_R own is text sa s' := vk_R.warm hW0 hstr
  obtain ⟨U, hsteps, hrun, hend, hW, hsame, ce, hce, hO⟩ := X₁.ctorThrowS hexec htr (own := own) (cls := cls) (names := names) (ic := ic) hown' hcls hnames h (fun x hx => nomatch hx) hfX hkX hcellA (by rw [hhp, hT]; exact Nat.le_refl _) (msg := .ref sa) rfl
    (g := { method := m, pc := pc + 6, locals := ls, stack := .ref sa :: .ref T.heap.size :: .ref T.heap.size :: rest, locked := none }) rfl hsize rfl rfl (rest := rest) rfl
    (by rw [hb]; exact d6) (by rw [hb]; exact d9) hout hRframes (by simp only [List.map_cons, List.sum_cons, hcat]; omega) hlocks
  obtain ⟨f1, f2⟩ := vx_frame hsame
  rw [hhp] at f1 f2
  have hWs : s.WarmedH U.vm := State.WarmedH.trans hW0 hW
  have hcl : s.vm.findClass cls = some ce.cls := by
    have h9 := hO.cls
    rw [hvm] at h9
    exact h9
  have hall : s.sameButNew ({ U with vm := s.vm } : State) locs mc ms := by
    subst hA
    obtain ⟨e1, e2⟩ := hsame
    rw [State.setFrames_setFrames] at e1
    have h2 : (T.setVm s.vm).sameButNew ({ U with vm := s.vm } : State) [] (0 + 1) (0 + 6) := ⟨e1, e2⟩
    have h3 := X.same.trans h2
    rw [List.append_nil] at h3
    exact h3.mono hc hs
  refine ⟨U, ?_, .threw T.heap.size, hrun, hend, Or.inr ⟨T.heap.size, rfl, cls, ce, locs, hx U hWs.alike f1 (fun q hq => f2 q hq (fun z hz => nomatch hz)), hce, hO.vm, hcl, hWs, hall, hf⟩⟩
  refine st1 _ ?_
  show Steps p.tables e below (T1.setTop { method := m, pc := pc + 3, locals := ls, stack := .ref T.heap.size :: rest, locked := none }) _
  jvm_step X₁.here [X₁.here.top, hexec, d3', Value.category]
  exact X₁.ldcString hexec (own := own) (text := text) (index := is) (a := sa) hown' hstr'.1 hstr'.2
    (g := { method := m, pc := pc + 4, locals := ls, stack := .ref T.heap.size :: .ref T.heap.size :: rest, locked := none }) rfl d4' _ hsteps
/-- 'throw new E("text")', the text by a wide index -/
theorem vx_throwSW {cc : ByteArray} {pc : Nat} (hexec : p.tables.exec = Jvm.exec) (hb : c.code = cc) (hl : l.stackTraces = false) {own cls text : String} {names : List String} {ik is ic mc ms sa : Nat} {A : Nat → Prop}
    (hown : s.vm.findClass own = some m.cls) (hcls : Bundle.fit cls = true) (hnames : ∀ n ∈ names, Bundle.fit n = true)
    (hk : (Cond.classLink own ik cls).before args s = true) (hini : (Cond.initialized cls).before args s = true) (hstr : vk_R own is text sa s) (hat : ∀ w ∈ vx_atS own ic cls names, w.before args s = true)
    (hgood : ∀ w ∈ Cond.classLink own ik cls :: Cond.initialized cls :: vx_atS own ic cls names, vx_ot w = true)
    (hU : vx_Zq Bundle.tN "UNASSIGNED_STACK" Bundle.steD A s s.heap) (hN : vx_Zq Bundle.tN "SUPPRESSED_SENTINEL" Bundle.listD A s s.heap) (hS : va_S A s.heap H locs) (hsize : ls.size = c.maxLocals)
    (d0 : decode cc pc = .ok (.new ik, 3)) (d3 : decode cc (pc + 3) = .ok (.dup, 1)) (d4 : decode cc (pc + 4) = .ok (.ldc_w is, 3)) (d7 : decode cc (pc + 7) = .ok (.invokespecial ic, 3)) (d10 : decode cc (pc + 10) = .ok (.athrow, 1))
    (hout : ∀ x ∈ c.exceptionTable.toList, covers x (pc + 10) = false)
    (hRframes : names.length + 3 < R.frames) (hRlocals : (rest.map fun v => v.category).sum + (13 * (names.length + 1) + 43) ≤ R.locals) (hRcells : cells + 1 ≤ R.cells) (hRslots : slots + 6 ≤ R.slots) (hlocks : meth.locks = false)
    (hx : ∀ t : State, s.vm.Alike t.vm → H.size ≤ t.heap.size → (∀ q : Nat, q < H.size → t.heap[q]? = H[q]?) → XC cls s t)
    (hf : ∀ z ∈ locs, free z.base) (hc : cells + 1 ≤ mc) (hs : slots + 6 ≤ ms) :
    W p l e R s m args below meth c H locs cells slots (vx_MQ below Qc XC args s mc ms free) (F0 m pc ls rest) := by
  intro T hT X
  have htr : e.platform.stackTraces = false := (show e.platform.stackTraces = l.stackTraces by rw [X.admits.platform]).trans hl
  have Y := vx_rebase X (R' := { frames := R.frames, locals := R.locals, cells := 1, slots := 6 }) (Nat.le_refl _) (Nat.le_refl _) hRcells hRslots
  obtain ⟨s', hA⟩ : ∃ z, z = (T.setVm s.vm).setFrames (.invoking m args :: below) := ⟨_, rfl⟩
  rw [← hA] at Y
  have hvm : s'.vm = s.vm := by rw [hA]; rfl
  have hhp : s'.heap = H := by rw [hA]; exact hT
  have hW0 : s.WarmedH s'.vm := by rw [hvm]; exact State.WarmedH.refl s
  have hat' : ∀ w ∈ vx_atS own ic cls names, w.before args s' = true := fun w hw => vx_ot_at hW0 hvm.symm (hgood w (List.mem_cons_of_mem _ (List.mem_cons_of_mem _ hw))) (hat w hw)
  have hk' : (Cond.classLink own ik cls).before args s' = true := vx_ot_at hW0 hvm.symm (hgood _ List.mem_cons_self) hk
  have hini' : (Cond.initialized cls).before args s' = true := vx_ot_at hW0 hvm.symm (hgood _ (List.mem_cons_of_mem _ List.mem_cons_self)) hini
  have hU' : vx_Zq Bundle.tN "UNASSIGNED_STACK" Bundle.steD A s' s'.heap := by rw [hhp]; exact vx_Zq.moved hW0.alike (hU.kept hS.2.1)
  have hN' : vx_Zq Bundle.tN "SUPPRESSED_SENTINEL" Bundle.listD A s' s'.heap := by rw [hhp]; exact vx_Zq.moved hW0.alike (hN.kept hS.2.1)
  have h : ∀ w ∈ Bundle.ownAtoms own ic cls names, w.before args s' = true := vx_own hat' (vx_isRefq hU'.1) (vx_isRefq hN'.1) hU'.2.word hN'.2.word
  have hown' : s'.vm.findClass own = some m.cls := by rw [hvm]; exact hown
  have hins : (Cond.instantiable cls 6).before args s' = true := h _ (by simp [Bundle.ownAtoms])
  obtain ⟨vm₁, cX, kX, hfX, hkX, -, -, X₁, st1⟩ := Y.newCold hexec (own := own) (C := cls) (index := ik) (n := 6) hown' hk' hins hini'
    (g := F0 m pc ls rest) rfl (by rw [hb]; exact d0) (Nat.le_refl _) (Nat.le_refl _)
  generalize hT1 : (T.setVm vm₁).pushCell { cls := cX, slots := kX.instanceTypes.map defaultValue, vm := .none } = T1 at X₁ st1
  have hcat : (Value.ref T.heap.size).category = 1 := rfl
  have hcellA : T1.heap[T.heap.size]? = some (freshCell cX kX) := by rw [← hT1]; exact State.heap_pushCell_size _ _
  have d3' : decode c.code (pc + 3) = .ok (.dup, 1) := by rw [hb]; exact d3
  have d4' : decode c.code (pc + 4) = .ok (.ldc_w is, 3) := by rw [hb]; exact d4
  have hstr' : vk_R own is text sa s' := vk_R.warm hW0 hstr
  obtain ⟨U, hsteps, hrun, hend, hW, hsame, ce, hce, hO⟩ := X₁.ctorThrowS hexec htr (own := own) (cls := cls) (names := names) (ic := ic) hown' hcls hnames h (fun x hx => nomatch hx) hfX hkX hcellA (by rw [hhp, hT]; exact Nat.le_refl _) (msg := .ref sa) rfl
    (g := { method := m, pc := pc + 7, locals := ls, stack := .ref sa :: .ref T.heap.size :: .ref T.heap.size :: rest, locked := none }) rfl hsize rfl rfl (rest := rest) rfl
    (by rw [hb]; exact d7) (by rw [hb]; exact d10) hout hRframes (by simp only [List.map_cons, List.sum_cons, hcat]; omega) hlocks
  obtain ⟨f1, f2⟩ := vx_frame hsame
  rw [hhp] at f1 f2
  have hWs : s.WarmedH U.vm := State.WarmedH.trans hW0 hW
  have hcl : s.vm.findClass cls = some ce.cls := by
    have h9 := hO.cls
    rw [hvm] at h9
    exact h9
  have hall : s.sameButNew ({ U with vm := s.vm } : State) locs mc ms := by
    subst hA
    obtain ⟨e1, e2⟩ := hsame
    rw [State.setFrames_setFrames] at e1
    have h2 : (T.setVm s.vm).sameButNew ({ U with vm := s.vm } : State) [] (0 + 1) (0 + 6) := ⟨e1, e2⟩
    have h3 := X.same.trans h2
    rw [List.append_nil] at h3
    exact h3.mono hc hs
  refine ⟨U, ?_, .threw T.heap.size, hrun, hend, Or.inr ⟨T.heap.size, rfl, cls, ce, locs, hx U hWs.alike f1 (fun q hq => f2 q hq (fun z hz => nomatch hz)), hce, hO.vm, hcl, hWs, hall, hf⟩⟩
  refine st1 _ ?_
  show Steps p.tables e below (T1.setTop { method := m, pc := pc + 3, locals := ls, stack := .ref T.heap.size :: rest, locked := none }) _
  jvm_step X₁.here [X₁.here.top, hexec, d3', Value.category]
  exact X₁.ldcStringW hexec (own := own) (text := text) (index := is) (a := sa) hown' hstr'.1 hstr'.2
    (g := { method := m, pc := pc + 4, locals := ls, stack := .ref T.heap.size :: .ref T.heap.size :: rest, locked := none }) rfl d4' _ hsteps
end Ends
section Bodies
variable {l : Launch}
theorem vx_ofW {y : MethodName} {ws ws' : List Cond} {rm : Room} {Pc : Array Value → State → Prop} {Qc : Array Value → State → Outcome → State → Prop} {XC : String → State → State → Prop} {mc ms : Nat} {free : Addr → Prop} {cc : ByteArray} {maxL : Nat} {ret : Option FieldType}
    (hy : plainName y.cls = true) (hw : ws = Cond.code y cc maxL ret :: ws')
    (body : ∀ p e s m args below meth c s₁, BodyLoose p l y (headSpec ws rm) cc maxL ret e s m args below meth c s₁ → c.maxLocals = maxL → (∀ x ∈ c.exceptionTable.toList, False) → Pc args s →
      W p l e (headSpec ws rm).room s m args below meth c s.heap [] 0 0 (vx_MQ below Qc XC args s mc ms free) (entryFrame m args maxL)) : vx_Met l y ws rm Pc Qc XC mc ms free := by
  refine MetFree.of_bodyS (code := cc) (maxLocals := maxL) (ret := ret) hy ?_ ?_
  · intro args s m h hn
    obtain ⟨meth, c, h1, h2, h3, h4, h5, h6, -, -⟩ := Cond.code_spec hn (atoms_spec (ws := ws) h _ (by rw [hw]; exact List.mem_cons_self))
    exact ⟨meth, c, h1, h2, h3, h4, h5, h6⟩
  · intro p e s m args below meth c s₁ B hml hP _
    have hh0 : s₁.heap = s.heap := by rw [B.state]; rfl
    have ht : ∀ x ∈ c.exceptionTable.toList, False := by
      obtain ⟨meth9, c9, h1, h2, -, -, -, -, h7, -⟩ := Cond.code_spec B.named (atoms_spec (ws := ws) B.pre _ (by rw [hw]; exact List.mem_cons_self))
      cases Option.some.inj (h1.symm.trans B.method)
      cases Option.some.inj (h2.symm.trans (Stand.of_body B).code)
      intro x hx
      rw [Array.isEmpty_iff.mp h7] at hx
      cases hx
    obtain ⟨t, a1, o, b1, b2, b3⟩ := body p e s m args below meth c s₁ B hml ht hP s₁ hh0 (Stand.of_body B)
    exact ⟨t, o, a1, b1, b2, b3⟩
/-- the table of a body with handlers -/
theorem vx_table {p : Program} {x y : MethodName} {S : Spec} {cc bytes : ByteArray} {maxL maxL' : Nat} {ret ret' : Option FieldType} {e : Env} {s s₁ : State} {m : MethodId} {args : Array Value} {below : List Frame} {meth : Method} {c : Code} {hh : List (Nat × Nat × Nat × Nat)}
    (B : BodyLoose p l y S cc maxL ret e s m args below meth c s₁) (h : (Cond.codeWith y bytes maxL' ret' hh).before args s = true) : c.exceptionTable.toList = tableOf hh := by
  obtain ⟨m9, meth9, c9, hn9, h1, h2, -, -, h6, -⟩ := Cond.codeWith_spec h
  cases Option.some.inj (hn9.symm.trans B.named)
  cases Option.some.inj (h1.symm.trans B.method)
  cases Option.some.inj (h2.symm.trans (Stand.of_body B).code)
  rw [← h6, table_eq]
end Bodies
end VXA
/-! ===== END ===== -/
/-! ===== BEGIN a static call of a method with an exception table ===== -/
section VXS
variable {p : Program} {l : Launch} {e : Env} {R : Room} {s : State} {m : MethodId} {args : Array Value} {below : List Frame} {meth : Method} {c : Code} {T : State} {H : Heap} {locs : List Loc} {cells slots : Nat}
abbrev vx_CSW (R : Room) (s : State) (args : Array Value) (own : String) (index : Nat) (y : MethodName) (bytes : ByteArray) (maxL : Nat) (ret : Option FieldType) (hh : List (Nat × Nat × Nat × Nat)) (ws : List Cond) (rm : Room) (mc ms n : Nat) : Prop :=
  (rm.cells = mc ∧ rm.slots = ms ∧ rm.frames + 1 ≤ R.frames ∧ 8 + (maxL + 11) + rm.locals ≤ R.locals ∧ (∀ w ∈ ws, ∀ (a' : Array Value) (U : State), s.WarmedH U.vm → w.before a' U = true) ∧ Cond.codeWith y bytes maxL ret hh ∈ ws) ∧
  (Cond.codeWith y bytes maxL ret hh).before args s = true ∧ (Cond.initialized y.cls).before args s = true ∧ (y.cls ≠ "java/lang/invoke/MethodHandle" ∧ y.cls ≠ "java/lang/invoke/VarHandle") ∧
  (∀ sig, parseMethodDescriptor y.desc = some sig → n = sig.parameters.length) ∧ (Cond.methodLink own index y).before args s = true ∧ (Cond.static y).before args s = true
theorem vx_cwSW {own : String} {index maxL mc ms : Nat} {y : MethodName} {bytes : ByteArray} {ret : Option FieldType} {hh : List (Nat × Nat × Nat × Nat)} {Ts ws ws' : List Cond} {rm : Room} (n : Nat) (ht : ∀ w ∈ Ts, w.before args s = true) (hT : GoodIn Ts (va_wsS own index y ws)) (hw : ws = Cond.codeWith y bytes maxL ret hh :: ws') (hrc : rm.cells = mc) (hrs : rm.slots = ms)
    (hd : y.cls ≠ "java/lang/invoke/MethodHandle" ∧ y.cls ≠ "java/lang/invoke/VarHandle" ∧ (parseMethodDescriptor y.desc).map (fun d => d.parameters.length) = some n) (hR : rm.frames + 1 ≤ R.frames ∧ 8 + (maxL + 11) + rm.locals ≤ R.locals) :
    vx_CSW R s args own index y bytes maxL ret hh ws rm mc ms n := by
  have ok : ∀ w ∈ va_wsS own index y ws, w.before args s = true := fun w h => ht w (hT w h).1
  have hG : GoodIn Ts ws := fun w h => hT w (by unfold va_wsS; exact List.mem_append_right _ h)
  have hc : Cond.codeWith y bytes maxL ret hh ∈ ws := by rw [hw]; exact List.mem_cons_self
  refine ⟨⟨hrc, hrs, hR.1, hR.2, pay_in ht hG, hc⟩, ht _ (hG _ hc).1, ok _ (by simp [va_wsS]), ⟨hd.1, hd.2.1⟩, fun sig h => ?_, ok _ (by simp [va_wsS]), ok _ (by simp [va_wsS])⟩
  have h2 := hd.2.2
  rw [h] at h2
  exact (Option.some.inj h2).symm
theorem vx_callSW (X : Stand p l e R s m args below meth c T locs cells slots) (hexec : p.tables.exec = Jvm.exec) {own : String} {index : Nat} {y : MethodName} {bytes : ByteArray} {maxL : Nat} {ret : Option FieldType} {hh : List (Nat × Nat × Nat × Nat)}
    (hown : s.vm.findClass own = some m.cls) (hlink : (Cond.methodLink own index y).before args s = true) (hstat : (Cond.static y).before args s = true) (hinit : (Cond.initialized y.cls).before args s = true)
    (hcode : (Cond.codeWith y bytes maxL ret hh).before args s = true) (hy : y.cls ≠ "java/lang/invoke/MethodHandle" ∧ y.cls ≠ "java/lang/invoke/VarHandle")
    {W9 : Nat} {Pre : Pt → Array Value → Prop} {Post : Pt → Array Value → Option Value → Pt → Prop} (hK : Back l R p e below s args y 3 W9 Pre Post)
    {g : JFrame} (hg : g.method = m) (hsize : g.locals.size = c.maxLocals) {argsL rest : List Value} (hlen : ∀ sig, parseMethodDescriptor y.desc = some sig → argsL.length = sig.parameters.length)
    (hstack : g.stack = argsL.reverse ++ rest) (hW : 2 * g.monitorRoom + (rest.map fun v => v.category).sum ≤ W9) (hdg : decode c.code g.pc = .ok (.invokestatic index, 3))
    (hpre : ∀ vm₁, s.WarmedH vm₁ → Pre ⟨T.setVm vm₁, locs, cells, slots⟩ argsL.toArray) :
    ∃ (v : Option Value) (vm₁ : Vm) (B : Pt), s.WarmedH vm₁ ∧ Stand p l e R s m args below meth c B.U B.locs B.cells B.slots ∧ Post ⟨T.setVm vm₁, locs, cells, slots⟩ argsL.toArray v B ∧
      ∀ target, Steps p.tables e below (B.U.setTop { g with pc := g.pc + 3, stack := v.toList ++ rest }) target → Steps p.tables e below (T.setTop g) target := by
  obtain ⟨mk, methM, cM, hnamed, hmethM, -, -, -, -, -, -, hsigM⟩ := Cond.codeWith_spec hcode
  have hstatic : methM.isStatic = true := Cond.static_spec hnamed hmethM hstat
  obtain ⟨kP, hkP, -⟩ := className_of_methodNamed hnamed
  have hinitP : kP.init = .initialized := Cond.initialized_spec (findClass_of_methodNamed hnamed) hkP hinit
  obtain ⟨vm₁, X₁, hstep₁⟩ := X.invokestatic hexec hown hlink hnamed hmethM hstatic hkP hinitP hy (g := g) hg (argsL := argsL) (rest := rest) (hlen _ hsigM) hstack hdg
  obtain ⟨v, B, X', hpost, hsteps⟩ := hK m meth c ⟨T.setVm vm₁, locs, cells, slots⟩ { g with stack := rest } (.invokestatic index) mk argsL.toArray X₁ hg hsize hdg hW (X₁.named hnamed) (hpre vm₁ X₁.warmed)
  exact ⟨v, vm₁, B, X₁.warmed, X', hpost, fun target h => hstep₁ _ fun acts => by rw [doInvoke_state]; exact hsteps.trans h⟩
theorem vx_runSW {y : MethodName} {bytes cc : ByteArray} {maxL nL mc ms n index : Nat} {ret : Option FieldType} {hh : List (Nat × Nat × Nat × Nat)} {ws : List Cond} {rm : Room} {Pc : Array Value → State → Prop} {Qc : Array Value → State → Outcome → State → Prop} {free : Addr → Prop} {Ts : List Cond} {own : String} {As rest : List Value} {g : JFrame}
    (S : CallFix p m c cc nL s args Ts own) (hM : Met l y ws rm Pc Qc mc ms free) (cw : vx_CSW R s args own index y bytes maxL ret hh ws rm mc ms n) (hp : PreS s H Pc As)
    (hg : g.method = m) (hn : As.length = n) (hsize : g.locals.size = nL) (hstack : g.stack = As.reverse ++ rest) (hW : 2 * g.monitorRoom + (rest.map fun v => v.category).sum ≤ 8) (hdg : decode cc g.pc = .ok (.invokestatic index, 3)) (hf : cells + mc ≤ R.cells ∧ slots + ms ≤ R.slots) :
    va_Run p l e R s m args below meth c H locs cells slots mc ms g rest (Qc As.toArray) (free) := by
  obtain ⟨⟨hrc, hrs, hfr, hlo, hws, hcw⟩, hcode, hini, hy, hlen, hl, hstt⟩ := cw
  have hK : Back l R p e below s args y 3 8 (PreOf R mc ms Pc) (PostOf Qc mc ms free) := va_backW (hh := hh) (bytes := bytes) (maxL := maxL) (ret := ret) hM hp.1 hrc hrs hfr hlo hws hcw (fun a' U hW => word_at hW (Or.inl (by first | rfl | simp [Cond.onTables, Cond.keeps, Cond.steady])) hini)
  obtain ⟨hx, hb, hml, ho, -⟩ := S
  intro T hT X
  obtain ⟨v, vm₁, ⟨U', l2, c2, s2⟩, hW₁, X', ⟨g', mk, t, L, e1, e2, hq, h1, hL, h2, h3⟩, st⟩ := vx_callSW X hx (hh := hh) (bytes := bytes) (maxL := maxL) (ret := ret) ho hl hstt hini hcode hy hK hg (hsize.trans hml.symm) (argsL := As) (rest := rest) (fun sig h => hn.trans (hlen sig h)) hstack hW (by rw [hb]; exact hdg)
    (fun vm₁ hW₁ => ⟨hf.1, hf.2, hp.2 (T.setVm vm₁) hT hW₁⟩)
  dsimp only [Pt.U, Pt.locs, Pt.cells, Pt.slots] at X' e1 e2 h1 h2 h3 st
  subst h1; subst h2; subst h3
  exact ⟨v, (T.setVm vm₁).calling g' mk As.toArray, t, U', L, hT, X', hL, e1, e2, hq, st⟩
/-- not caught here, past rows that name other classes: it goes on to the caller -/
theorem vx_outP {p : Program} {l : Launch} {e : Env} {R : Room} {s : State} {m : MethodId} {args : Array Value} {below : List Frame} {meth : Method} {c : Code} {H : Heap} {locs : List Loc} {cells slots : Nat} {free : Addr → Prop} {ls : Array Slot} {rest : List Value} {Qc : Array Value → State → Outcome → State → Prop} {XC : String → State → State → Prop}
    {pc : Nat} {own E : String} {ce : Cell} {q : Addr} {mc ms : Nat} (hown : s.vm.findClass own = some m.cls) (hlocks : meth.locks = false)
    (hpass : ∀ z ∈ c.exceptionTable.toList, covers z pc = false ∨ (z.catchType ≠ 0 ∧ ∃ nm : String, (Cond.classLink own z.catchType nm).before args s = true ∧ va_Nc E nm s)) (hcell : H[q]? = some ce) (hv : ce.vm = .none) (hcl : s.vm.findClass E = some ce.cls)
    (hx : ∀ t : State, t.heap = H → s.vm.Alike t.vm → XC E s t) (hf : ∀ z ∈ locs, free z.base) (hc : cells ≤ mc) (hs : slots ≤ ms) :
    vx_W p l e R s m args below meth c H locs cells slots (vx_MQ below Qc XC args s mc ms free) (F0 m pc ls rest) q := by
  intro T hT X
  have hpl : e.platform.magicAccessors = ({} : Platform).magicAccessors := by rw [X.admits.platform]
  obtain ⟨vm', hW', X', st⟩ := X.outThrough hlocks q (g := F0 m pc ls rest) rfl rfl rfl (cell := ce) (by rw [hT]; exact hcell) (by rw [hv]; rfl)
    (by obtain ⟨k9, h9, -⟩ := Vm.findClass_spec hcl; exact ⟨k9, h9⟩) (fun z hz => by
      rcases hpass z hz with h | ⟨hz0, nm, hl1, hn1⟩
      · exact Or.inl h
      · obtain ⟨c6, hc6, hcl6⟩ := Cond.classLink_spec hown hl1 e.platform hpl
        obtain ⟨a8, b8, h1, h2, h3⟩ := hn1
        cases Option.some.inj (h1.symm.trans hcl)
        cases Option.some.inj (h2.symm.trans hc6)
        exact Or.inr ⟨hz0, _, hcl6, h3⟩)
  obtain ⟨g₀, hfr⟩ := X'.frames_eq
  have hcell9 : ((T.setVm vm').setFrames (.throwing q :: below)).heap[q]? = some ce := by
    show T.heap[q]? = some ce
    rw [hT]; exact hcell
  have hend : Ended ((T.setVm vm').setFrames (.throwing q :: below)) below (.threw q) := State.frames_setFrames _ (State.cur_lt_of_frames hfr)
  refine ⟨(T.setVm vm').setFrames (.throwing q :: below), ?_, .threw q, X'.here.running, hend, Or.inr ⟨q, rfl, E, ce, locs, hx _ hT (X'.ends _).1.alike, hcell9, hv, hcl, (X'.ends _).1, (X'.ends _).2.mono hc hs, hf⟩⟩
  rw [X.pushThrowing_eq]
  exact st
/-- a thing of a world lies in the heap -/
theorem vx_lt {D : va_G} {cl : List vw_C} {ws : va_W} {H1 : Heap} (h : va_P D cl ws H1) {k : Nat} {q : Nat × va_E} (hk : ws[k]? = some q) : q.1 < H1.size := (h k q hk).lt
end VXS
/-! ===== END ===== -/
/-! ===== BEGIN methods with a table of their own: called by a name, returning or throwing ===== -/
section VXH
/-! vx_backW, vx_callVX, vx_callSX, vx_callVW, vx_runVW, vx_runVX, vx_runSX, vx_ofWH follow the same proofs as their sisters above (Free/Laws.lean, Shelf42/LK1.lean); vx_outP calls Shelf42/NT130.lean (outThrough). -/
section
variable {l : Launch} {R : Room} {p : Program} {e : Env} {below : List Frame} {s : State} {sargs : Array Value} {y : MethodName} {len W9 : Nat}
theorem vx_backW {ws : List Cond} {rm : Room} {Pc : Array Value → State → Prop} {Qc : Array Value → State → Outcome → State → Prop} {XC : String → State → State → Prop} {mc ms : Nat} {free : Addr → Prop} {bytes : ByteArray} {maxL : Nat} {ret : Option FieldType} {hh : List (Nat × Nat × Nat × Nat)}
    (hM : vx_Met l y ws rm Pc Qc XC mc ms free) (hblind : FrameBlind Pc) (hrc : rm.cells = mc) (hrs : rm.slots = ms)
    (hframes : rm.frames + 1 ≤ R.frames) (hlocals : W9 + (maxL + 11) + rm.locals ≤ R.locals)
    (hws : ∀ w ∈ ws, ∀ a' U, s.WarmedH U.vm → w.before a' U = true) (hcode : Cond.codeWith y bytes maxL ret hh ∈ ws) (hinit : ∀ a' U, s.WarmedH U.vm → (Cond.initialized y.cls).before a' U = true) :
    vx_Back l R p e below s sargs y len W9 (PreOf R mc ms Pc) (PostOf Qc mc ms free) (vx_Post XC mc ms free) := by
  intro m meth c A g ig mk a X hg hsize hdg hW hn hp
  have h1 : (headSpec ws rm).pre.before a A.U = true := atoms_intro fun w hw => hws w hw _ _ X.warmed
  have h2 : (Cond.codeWith y bytes maxL ret hh).before a A.U = true := hws _ hcode _ _ X.warmed
  have h3 : (Cond.initialized y.cls).before a A.U = true := hinit _ _ X.warmed
  have h4 : A.cells + (headSpec ws rm).room.cells ≤ R.cells := by rw [show (headSpec ws rm).room.cells = mc from hrc]; exact hp.1
  have h5 : A.slots + (headSpec ws rm).room.slots ≤ R.slots := by rw [show (headSpec ws rm).room.slots = ms from hrs]; exact hp.2.1
  have hPc : Pc a (A.U.calling g mk a) := hblind _ _ _ _ hp.2.2
  obtain ⟨U, Ls, c0, s0⟩ := A
  dsimp only [Pt.U, Pt.locs, Pt.cells, Pt.slots] at h1 h2 h3 h4 h5 X hn hPc ⊢
  obtain ⟨m9, methY, cY, hn9, hmY, hcY, -, hlY, -⟩ := Cond.codeWith_spec h2
  cases Option.some.inj (hn9.symm.trans hn)
  obtain ⟨kY, hkY, -⟩ := className_of_methodNamed hn
  have hinitY : kY.init = .initialized := Cond.initialized_spec (findClass_of_methodNamed hn) hkY h3
  have h : At U g.method c below := by rw [hg]; exact X.here
  have hlocals9 : W9 + (maxL + 11) + (headSpec ws rm).room.locals ≤ R.locals := hlocals
  have happ : (headSpec ws rm).appliesLoose y e.platform (U.calling g mk a) = true :=
    Spec.appliesLoose_calling (g := g) h hdg hn hkY hinitY
      (X.room_calling (g := g) (R' := (headSpec ws rm).room) hsize hmY hcY hframes (by rw [hlY]; omega) h4 h5) h1
  obtain ⟨mid, hmid⟩ := h.above
  have hfr : (U.setTop g).frames = (.java g :: mid) ++ below := by rw [State.frames_setTop' g h.top, hmid]; rfl
  obtain ⟨o, s₂, hsteps, -, hend, hq⟩ := Steps.callFree hM p X.admits X.cas X.clock (acts := []) hfr happ hPc trivial
  have hq' : vx_Q Qc XC mc ms free a (U.calling g mk a) o s₂ := hq
  rw [State.frames_setTop' g h.top] at hend
  obtain ⟨g₀, hg0⟩ := Option.isSome_iff_exists.mp h.top
  obtain ⟨r, hr⟩ := State.topJava?_eq_some.mp hg0
  have hr' : (({ U with heap := s₂.heap, slotsUsed := s₂.slotsUsed } : State).setVm s₂.vm).frames = .java g₀ :: r := hr
  rcases hq' with ⟨hqc, L, hfe, hL⟩ | ⟨q, rfl, E, ce, L, hx, hce, hcv, hcl, hW₂, hsm, hL⟩
  · obtain ⟨⟨v, rfl⟩, hW₂, e2, q2, q3, q4, q5, q6⟩ := id hfe
    have e3 : s₂ = ({ (U.calling g mk a).setFrames s₂.frames with heap := s₂.heap, slotsUsed := s₂.slotsUsed } : State).setVm s₂.vm := by
      have : s₂ = ({ s₂ with vm := (U.calling g mk a).vm } : State).setVm s₂.vm := rfl
      rw [e2] at this
      exact this
    obtain ⟨c₂, i₂, len₂, hc₂, hd₂, hf₂⟩ := hend
    have hW' : U.WarmedH s₂.vm := hW₂
    have hcc : c₂ = c := by
      have h1 : s₂.code? g.method = U.code? g.method := by
        rw [State.code?_eq, State.code?_eq, hW'.alike.method?]
      exact Option.some.inj (hc₂.symm.trans (h1.trans h.code))
    subst hcc
    have hlen : len₂ = len := by rw [hdg] at hd₂; cases hd₂; rfl
    subst hlen
    have hs₂ : s₂ = (({ U with heap := s₂.heap, slotsUsed := s₂.slotsUsed } : State).setVm s₂.vm).setTop { g with pc := g.pc + len₂, stack := v.toList ++ g.stack } := by
      refine e3.trans ?_
      rw [hf₂, State.calling_eq h.top, State.setFrames_setFrames, State.setTop_of_frames _ hr', hr]
      rfl
    have hsame : U.sameButNew ({ U with heap := s₂.heap, slotsUsed := s₂.slotsUsed } : State) L mc ms := by
      refine ⟨?_, q2, q3, q4, q5, q6⟩
      obtain ⟨t, ht, -⟩ := State.frames_cons hr
      show ({ U with heap := s₂.heap, slotsUsed := s₂.slotsUsed } : State) = { U.setFrames U.frames with heap := s₂.heap, slotsUsed := s₂.slotsUsed }
      rw [State.setFrames_self ht]
    subst hg
    refine Or.inl ⟨v, ⟨(({ U with heap := s₂.heap, slotsUsed := s₂.slotsUsed } : State).setVm s₂.vm), Ls ++ L, c0 + mc, s0 + ms⟩,
      ⟨X.admits, X.cas, X.clock, X.frames, X.room, X.hears, X.method, X.code, (X.here.setHeapUsed s₂.heap s₂.slotsUsed).setVm hW'.alike, X.tail, State.WarmedH.trans X.warmed hW', X.limits, X.bytes, X.same.trans (hsame.setVm s.vm)⟩,
      ⟨g, mk, s₂, L, rfl, rfl, hqc, rfl, hL, rfl, rfl⟩, ?_⟩
    show Steps p.tables e below _ ((({ U with heap := s₂.heap, slotsUsed := s₂.slotsUsed } : State).setVm s₂.vm).setTop { g with pc := g.pc + len₂, stack := v.toList ++ g.stack })
    rw [← hs₂]
    exact hsteps
  · obtain ⟨e2, q2, q3, q4, q5, q6⟩ := id hsm
    have e3 : s₂ = ({ (U.calling g mk a).setFrames s₂.frames with heap := s₂.heap, slotsUsed := s₂.slotsUsed } : State).setVm s₂.vm := by
      have : s₂ = ({ s₂ with vm := (U.calling g mk a).vm } : State).setVm s₂.vm := rfl
      rw [e2] at this
      exact this
    have hf₂ : s₂.frames = .throwing q :: .java g :: U.frames.tail := hend
    have hW' : U.WarmedH s₂.vm := hW₂
    have hs₂ : s₂ = ((({ U with heap := s₂.heap, slotsUsed := s₂.slotsUsed } : State).setVm s₂.vm).setTop g).pushFrame (.throwing q) := by
      refine e3.trans ?_
      rw [hf₂, State.calling_eq h.top, State.setFrames_setFrames, State.pushFrame, State.frames_setTop _ hr', State.setTop_of_frames _ hr', State.setFrames_setFrames, hr]
      rfl
    have hsame : U.sameButNew ({ U with heap := s₂.heap, slotsUsed := s₂.slotsUsed } : State) L mc ms := by
      refine ⟨?_, q2, q3, q4, q5, q6⟩
      obtain ⟨t, ht, -⟩ := State.frames_cons hr
      show ({ U with heap := s₂.heap, slotsUsed := s₂.slotsUsed } : State) = { U.setFrames U.frames with heap := s₂.heap, slotsUsed := s₂.slotsUsed }
      rw [State.setFrames_self ht]
    subst hg
    refine Or.inr ⟨q, ⟨(({ U with heap := s₂.heap, slotsUsed := s₂.slotsUsed } : State).setVm s₂.vm), Ls ++ L, c0 + mc, s0 + ms⟩,
      ⟨X.admits, X.cas, X.clock, X.frames, X.room, X.hears, X.method, X.code, (X.here.setHeapUsed s₂.heap s₂.slotsUsed).setVm hW'.alike, X.tail, State.WarmedH.trans X.warmed hW', X.limits, X.bytes, X.same.trans (hsame.setVm s.vm)⟩,
      ⟨g, mk, s₂, L, E, ce, rfl, rfl, hx, hce, hcv, hcl, rfl, hL, rfl, rfl⟩, ?_⟩
    show Steps p.tables e below _ (((({ U with heap := s₂.heap, slotsUsed := s₂.slotsUsed } : State).setVm s₂.vm).setTop g).pushFrame (.throwing q))
    rw [← hs₂]
    exact hsteps
end
variable {p : Program} {l : Launch} {e : Env} {R : Room} {s : State} {m : MethodId} {args : Array Value} {below : List Frame} {meth : Method} {c : Code} {T : State} {H : Heap} {locs : List Loc} {cells slots : Nat}
theorem vx_callVX (X : Stand p l e R s m args below meth c T locs cells slots) (hexec : p.tables.exec = Jvm.exec) {own C : String} {index : Nat} {y : MethodName} {bytes : ByteArray} {maxL : Nat} {ret : Option FieldType} {hh : List (Nat × Nat × Nat × Nat)}
    (hown : s.vm.findClass own = some m.cls) (hlink : (Cond.methodLink own index y).before args s = true) (hinst : (Cond.instanceMethod y).before args s = true) (hsel : (Cond.selects C y y).before args s = true)
    (hcode : (Cond.codeWith y bytes maxL ret hh).before args s = true) (hy : y.cls ≠ "java/lang/invoke/MethodHandle" ∧ y.cls ≠ "java/lang/invoke/VarHandle")
    {W9 : Nat} {Pre : Pt → Array Value → Prop} {Post : Pt → Array Value → Option Value → Pt → Prop} {PostX : Pt → Array Value → Addr → Pt → Prop} (hK : vx_Back l R p e below s args y 3 W9 Pre Post PostX)
    {b : Addr} {cellB : Cell} (hcell : T.heap[b]? = some cellB) (hobj : cellB.vm.isStatics = false) (hcls : s.vm.findClass C = some cellB.cls)
    {g : JFrame} (hg : g.method = m) (hsize : g.locals.size = c.maxLocals) {argsL rest : List Value} (hlen : ∀ sig, parseMethodDescriptor y.desc = some sig → argsL.length = sig.parameters.length)
    (hstack : g.stack = argsL.reverse ++ .ref b :: rest) (hW : 2 * g.monitorRoom + (rest.map fun v => v.category).sum ≤ W9) (hdg : decode c.code g.pc = .ok (.invokevirtual index, 3))
    (hpre : ∀ vm₁, s.WarmedH vm₁ → Pre ⟨T.setVm vm₁, locs, cells, slots⟩ (Value.ref b :: argsL).toArray) :
    (∃ (v : Option Value) (vm₁ : Vm) (B : Pt), s.WarmedH vm₁ ∧ Stand p l e R s m args below meth c B.U B.locs B.cells B.slots ∧ Post ⟨T.setVm vm₁, locs, cells, slots⟩ (Value.ref b :: argsL).toArray v B ∧
      ∀ target, Steps p.tables e below (B.U.setTop { g with pc := g.pc + 3, stack := v.toList ++ rest }) target → Steps p.tables e below (T.setTop g) target) ∨
    (∃ (q : Addr) (vm₁ : Vm) (B : Pt), s.WarmedH vm₁ ∧ Stand p l e R s m args below meth c B.U B.locs B.cells B.slots ∧ PostX ⟨T.setVm vm₁, locs, cells, slots⟩ (Value.ref b :: argsL).toArray q B ∧
      Steps p.tables e below (T.setTop g) ((B.U.setTop { g with stack := rest }).pushFrame (.throwing q))) := by
  obtain ⟨mk, methM, hnamed, hmethM, hstM, habM⟩ := Cond.instanceMethod_spec hinst
  obtain ⟨m8, methM', cM, hn8, hmethM', -, -, -, -, -, -, hsigM⟩ := Cond.codeWith_spec hcode
  cases Option.some.inj (hn8.symm.trans hnamed)
  cases hmethM.symm.trans hmethM'
  obtain ⟨c2, r2, m2, q1, q2, q3, q4, kP, hkP, hkPi⟩ := Cond.selects_spec hsel
  cases hcls.symm.trans q1
  cases (State.methodFound?_of_named hnamed hy).symm.trans q2
  cases hnamed.symm.trans q3
  have hselP : selectMethod e.platform s.vm cellB.cls mk = .method mk := by rw [Launch.admits_selectMethod X.admits]; exact q4
  obtain ⟨vm₁, X₁, hstep₁⟩ := X.invokevirtual hexec hown hlink hnamed hmethM hstM hkP hkPi hy (a := b) (cell := cellB) hcell
    (fun z h => by rw [h] at hobj; cases hobj) hselP hmethM habM hkP hkPi (g := g) hg (argsL := argsL) (rest := rest) (hlen _ hsigM) hstack hdg
  rcases hK m meth c ⟨T.setVm vm₁, locs, cells, slots⟩ { g with stack := rest } (.invokevirtual index) mk (Value.ref b :: argsL).toArray X₁ hg hsize hdg hW (X₁.named hnamed) (hpre vm₁ X₁.warmed) with ⟨v, B, X', hpost, hsteps⟩ | ⟨q, B, X', hpost, hsteps⟩
  · exact Or.inl ⟨v, vm₁, B, X₁.warmed, X', hpost, fun target h => hstep₁ _ fun acts => by rw [doInvoke_state]; exact hsteps.trans h⟩
  · exact Or.inr ⟨q, vm₁, B, X₁.warmed, X', hpost, hstep₁ _ fun acts => by rw [doInvoke_state]; exact hsteps⟩
theorem vx_callSX (X : Stand p l e R s m args below meth c T locs cells slots) (hexec : p.tables.exec = Jvm.exec) {own : String} {index : Nat} {y : MethodName} {bytes : ByteArray} {maxL : Nat} {ret : Option FieldType} {hh : List (Nat × Nat × Nat × Nat)}
    (hown : s.vm.findClass own = some m.cls) (hlink : (Cond.methodLink own index y).before args s = true) (hstat : (Cond.static y).before args s = true) (hinit : (Cond.initialized y.cls).before args s = true)
    (hcode : (Cond.codeWith y bytes maxL ret hh).before args s = true) (hy : y.cls ≠ "java/lang/invoke/MethodHandle" ∧ y.cls ≠ "java/lang/invoke/VarHandle")
    {W9 : Nat} {Pre : Pt → Array Value → Prop} {Post : Pt → Array Value → Option Value → Pt → Prop} {PostX : Pt → Array Value → Addr → Pt → Prop} (hK : vx_Back l R p e below s args y 3 W9 Pre Post PostX)
    {g : JFrame} (hg : g.method = m) (hsize : g.locals.size = c.maxLocals) {argsL rest : List Value} (hlen : ∀ sig, parseMethodDescriptor y.desc = some sig → argsL.length = sig.parameters.length)
    (hstack : g.stack = argsL.reverse ++ rest) (hW : 2 * g.monitorRoom + (rest.map fun v => v.category).sum ≤ W9) (hdg : decode c.code g.pc = .ok (.invokestatic index, 3))
    (hpre : ∀ vm₁, s.WarmedH vm₁ → Pre ⟨T.setVm vm₁, locs, cells, slots⟩ argsL.toArray) :
    (∃ (v : Option Value) (vm₁ : Vm) (B : Pt), s.WarmedH vm₁ ∧ Stand p l e R s m args below meth c B.U B.locs B.cells B.slots ∧ Post ⟨T.setVm vm₁, locs, cells, slots⟩ argsL.toArray v B ∧
      ∀ target, Steps p.tables e below (B.U.setTop { g with pc := g.pc + 3, stack := v.toList ++ rest }) target → Steps p.tables e below (T.setTop g) target) ∨
    (∃ (q : Addr) (vm₁ : Vm) (B : Pt), s.WarmedH vm₁ ∧ Stand p l e R s m args below meth c B.U B.locs B.cells B.slots ∧ PostX ⟨T.setVm vm₁, locs, cells, slots⟩ argsL.toArray q B ∧
      Steps p.tables e below (T.setTop g) ((B.U.setTop { g with stack := rest }).pushFrame (.throwing q))) := by
  obtain ⟨mk, methM, cM, hnamed, hmethM, -, -, -, -, -, -, hsigM⟩ := Cond.codeWith_spec hcode
  have hstatic : methM.isStatic = true := Cond.static_spec hnamed hmethM hstat
  obtain ⟨kP, hkP, -⟩ := className_of_methodNamed hnamed
  have hinitP : kP.init = .initialized := Cond.initialized_spec (findClass_of_methodNamed hnamed) hkP hinit
  obtain ⟨vm₁, X₁, hstep₁⟩ := X.invokestatic hexec hown hlink hnamed hmethM hstatic hkP hinitP hy (g := g) hg (argsL := argsL) (rest := rest) (hlen _ hsigM) hstack hdg
  rcases hK m meth c ⟨T.setVm vm₁, locs, cells, slots⟩ { g with stack := rest } (.invokestatic index) mk argsL.toArray X₁ hg hsize hdg hW (X₁.named hnamed) (hpre vm₁ X₁.warmed) with ⟨v, B, X', hpost, hsteps⟩ | ⟨q, B, X', hpost, hsteps⟩
  · exact Or.inl ⟨v, vm₁, B, X₁.warmed, X', hpost, fun target h => hstep₁ _ fun acts => by rw [doInvoke_state]; exact hsteps.trans h⟩
  · exact Or.inr ⟨q, vm₁, B, X₁.warmed, X', hpost, hstep₁ _ fun acts => by rw [doInvoke_state]; exact hsteps⟩
theorem vx_callVW (X : Stand p l e R s m args below meth c T locs cells slots) (hexec : p.tables.exec = Jvm.exec) {own C : String} {index : Nat} {y : MethodName} {bytes : ByteArray} {maxL : Nat} {ret : Option FieldType} {hh : List (Nat × Nat × Nat × Nat)}
    (hown : s.vm.findClass own = some m.cls) (hlink : (Cond.methodLink own index y).before args s = true) (hinst : (Cond.instanceMethod y).before args s = true) (hsel : (Cond.selects C y y).before args s = true)
    (hcode : (Cond.codeWith y bytes maxL ret hh).before args s = true) (hy : y.cls ≠ "java/lang/invoke/MethodHandle" ∧ y.cls ≠ "java/lang/invoke/VarHandle")
    {W9 : Nat} {Pre : Pt → Array Value → Prop} {Post : Pt → Array Value → Option Value → Pt → Prop} (hK : Back l R p e below s args y 3 W9 Pre Post)
    {b : Addr} {cellB : Cell} (hcell : T.heap[b]? = some cellB) (hobj : cellB.vm.isStatics = false) (hcls : s.vm.findClass C = some cellB.cls)
    {g : JFrame} (hg : g.method = m) (hsize : g.locals.size = c.maxLocals) {argsL rest : List Value} (hlen : ∀ sig, parseMethodDescriptor y.desc = some sig → argsL.length = sig.parameters.length)
    (hstack : g.stack = argsL.reverse ++ .ref b :: rest) (hW : 2 * g.monitorRoom + (rest.map fun v => v.category).sum ≤ W9) (hdg : decode c.code g.pc = .ok (.invokevirtual index, 3))
    (hpre : ∀ vm₁, s.WarmedH vm₁ → Pre ⟨T.setVm vm₁, locs, cells, slots⟩ (Value.ref b :: argsL).toArray) :
    ∃ (v : Option Value) (vm₁ : Vm) (B : Pt), s.WarmedH vm₁ ∧ Stand p l e R s m args below meth c B.U B.locs B.cells B.slots ∧ Post ⟨T.setVm vm₁, locs, cells, slots⟩ (Value.ref b :: argsL).toArray v B ∧
      ∀ target, Steps p.tables e below (B.U.setTop { g with pc := g.pc + 3, stack := v.toList ++ rest }) target → Steps p.tables e below (T.setTop g) target := by
  obtain ⟨mk, methM, hnamed, hmethM, hstM, habM⟩ := Cond.instanceMethod_spec hinst
  obtain ⟨m8, methM', cM, hn8, hmethM', -, -, -, -, -, -, hsigM⟩ := Cond.codeWith_spec hcode
  cases Option.some.inj (hn8.symm.trans hnamed)
  cases hmethM.symm.trans hmethM'
  obtain ⟨c2, r2, m2, q1, q2, q3, q4, kP, hkP, hkPi⟩ := Cond.selects_spec hsel
  cases hcls.symm.trans q1
  cases (State.methodFound?_of_named hnamed hy).symm.trans q2
  cases hnamed.symm.trans q3
  have hselP : selectMethod e.platform s.vm cellB.cls mk = .method mk := by rw [Launch.admits_selectMethod X.admits]; exact q4
  obtain ⟨vm₁, X₁, hstep₁⟩ := X.invokevirtual hexec hown hlink hnamed hmethM hstM hkP hkPi hy (a := b) (cell := cellB) hcell
    (fun z h => by rw [h] at hobj; cases hobj) hselP hmethM habM hkP hkPi (g := g) hg (argsL := argsL) (rest := rest) (hlen _ hsigM) hstack hdg
  obtain ⟨v, B, X', hpost, hsteps⟩ := hK m meth c ⟨T.setVm vm₁, locs, cells, slots⟩ { g with stack := rest } (.invokevirtual index) mk (Value.ref b :: argsL).toArray X₁ hg hsize hdg hW (X₁.named hnamed) (hpre vm₁ X₁.warmed)
  exact ⟨v, vm₁, B, X₁.warmed, X', hpost, fun target h => hstep₁ _ fun acts => by rw [doInvoke_state]; exact hsteps.trans h⟩
abbrev vx_CVW (R : Room) (s : State) (args : Array Value) (own C : String) (index : Nat) (y : MethodName) (bytes : ByteArray) (maxL : Nat) (ret : Option FieldType) (hh : List (Nat × Nat × Nat × Nat)) (ws : List Cond) (rm : Room) (mc ms n : Nat) : Prop :=
  (rm.cells = mc ∧ rm.slots = ms ∧ rm.frames + 1 ≤ R.frames ∧ 8 + (maxL + 11) + rm.locals ≤ R.locals ∧ (∀ w ∈ ws, ∀ (a' : Array Value) (U : State), s.WarmedH U.vm → w.before a' U = true) ∧ Cond.codeWith y bytes maxL ret hh ∈ ws) ∧
  (Cond.codeWith y bytes maxL ret hh).before args s = true ∧ (Cond.initialized y.cls).before args s = true ∧ (y.cls ≠ "java/lang/invoke/MethodHandle" ∧ y.cls ≠ "java/lang/invoke/VarHandle") ∧
  (∀ sig, parseMethodDescriptor y.desc = some sig → n = sig.parameters.length) ∧ (Cond.methodLink own index y).before args s = true ∧ (Cond.instanceMethod y).before args s = true ∧ (Cond.selects C y y).before args s = true
theorem vx_cwVW {own C : String} {index maxL mc ms : Nat} {y : MethodName} {bytes : ByteArray} {ret : Option FieldType} {hh : List (Nat × Nat × Nat × Nat)} {Ts ws ws' : List Cond} {rm : Room} (n : Nat) (ht : ∀ w ∈ Ts, w.before args s = true) (hT : GoodIn Ts (wsV own index C y ws)) (hw : ws = Cond.codeWith y bytes maxL ret hh :: ws') (hrc : rm.cells = mc) (hrs : rm.slots = ms)
    (hd : y.cls = C ∧ y.cls ≠ "java/lang/invoke/MethodHandle" ∧ y.cls ≠ "java/lang/invoke/VarHandle" ∧ (parseMethodDescriptor y.desc).map (fun d => d.parameters.length) = some n) (hR : rm.frames + 1 ≤ R.frames ∧ 8 + (maxL + 11) + rm.locals ≤ R.locals) :
    vx_CVW R s args own C index y bytes maxL ret hh ws rm mc ms n := by
  obtain ⟨hC, hd⟩ := hd
  subst hC
  have ok : ∀ w ∈ wsV own index y.cls y ws, w.before args s = true := fun w h => ht w (hT w h).1
  have hG : GoodIn Ts ws := fun w h => hT w (by unfold wsV; exact List.mem_append_right _ h)
  have hc : Cond.codeWith y bytes maxL ret hh ∈ ws := by rw [hw]; exact List.mem_cons_self
  refine ⟨⟨hrc, hrs, hR.1, hR.2, pay_in ht hG, hc⟩, ht _ (hG _ hc).1, ok _ (by simp [wsV]), ⟨hd.1, hd.2.1⟩, fun sig h => ?_, ok _ (by simp [wsV]), ok _ (by simp [wsV]), ok _ (by simp [wsV])⟩
  have h2 := hd.2.2
  rw [h] at h2
  exact (Option.some.inj h2).symm
theorem vx_runVW {y : MethodName} {bytes cc : ByteArray} {maxL nL mc ms n index : Nat} {ret : Option FieldType} {hh : List (Nat × Nat × Nat × Nat)} {ws : List Cond} {rm : Room} {Pc : Array Value → State → Prop} {Qc : Array Value → State → Outcome → State → Prop} {free : Addr → Prop} {Ts : List Cond} {own C : String} {b : Addr} {As rest : List Value} {g : JFrame}
    (S : CallFix p m c cc nL s args Ts own) (hM : Met l y ws rm Pc Qc mc ms free) (cw : vx_CVW R s args own C index y bytes maxL ret hh ws rm mc ms n) (hp : PreV s H C b Pc As)
    (hg : g.method = m) (hn : As.length = n) (hsize : g.locals.size = nL) (hstack : g.stack = As.reverse ++ .ref b :: rest) (hW : 2 * g.monitorRoom + (rest.map fun v => v.category).sum ≤ 8) (hdg : decode cc g.pc = .ok (.invokevirtual index, 3)) (hf : cells + mc ≤ R.cells ∧ slots + ms ≤ R.slots) :
    va_Run p l e R s m args below meth c H locs cells slots mc ms g rest (Qc (Value.ref b :: As).toArray) free := by
  obtain ⟨⟨hrc, hrs, hfr, hlo, hws, hcw⟩, hcode, hini, hy, hlen, hl, hin, hse⟩ := cw
  have hK : Back l R p e below s args y 3 8 (PreOf R mc ms Pc) (PostOf Qc mc ms free) := va_backW (hh := hh) (bytes := bytes) (maxL := maxL) (ret := ret) hM hp.1 hrc hrs hfr hlo hws hcw (fun a' U hW => word_at hW (Or.inl (by first | rfl | simp [Cond.onTables, Cond.keeps, Cond.steady])) hini)
  obtain ⟨hx, hb, hml, ho, -⟩ := S
  obtain ⟨-, ⟨cellB, hcB, hoB, hclB⟩, hPc⟩ := hp
  intro T hT X
  obtain ⟨v, vm₁, ⟨U', l2, c2, s2⟩, hW₁, X', ⟨g', mk, t, L, e1, e2, hq, h1, hL, h2, h3⟩, st⟩ := vx_callVW X hx (C := C) (hh := hh) (bytes := bytes) (maxL := maxL) (ret := ret) ho hl hin hse hcode hy hK (by rw [hT]; exact hcB) hoB hclB hg (hsize.trans hml.symm) (argsL := As) (rest := rest) (fun sig h => hn.trans (hlen sig h)) hstack hW (by rw [hb]; exact hdg)
    (fun vm₁ hW₁ => ⟨hf.1, hf.2, hPc (T.setVm vm₁) hT hW₁⟩)
  dsimp only [Pt.U, Pt.locs, Pt.cells, Pt.slots] at X' e1 e2 h1 h2 h3 st
  subst h1; subst h2; subst h3
  exact ⟨v, (T.setVm vm₁).calling g' mk (Value.ref b :: As).toArray, t, U', L, hT, X', hL, e1, e2, hq, st⟩
section
variable {y : MethodName} {bytes cc : ByteArray} {maxL nL mc ms n index : Nat} {ret : Option FieldType} {ws : List Cond} {rm : Room} {Pc : Array Value → State → Prop} {Qc : Array Value → State → Outcome → State → Prop} {XC : String → State → State → Prop} {free : Addr → Prop} {Ts : List Cond} {own C : String} {b : Addr} {As rest : List Value} {g : JFrame}
theorem vx_runVX {hh : List (Nat × Nat × Nat × Nat)} (S : CallFix p m c cc nL s args Ts own) (hM : vx_Met l y ws rm Pc Qc XC mc ms free) (cw : vx_CVW R s args own C index y bytes maxL ret hh ws rm mc ms n) (hp : PreV s H C b Pc As)
    (hg : g.method = m) (hn : As.length = n) (hsize : g.locals.size = nL) (hstack : g.stack = As.reverse ++ .ref b :: rest) (hW : 2 * g.monitorRoom + (rest.map fun v => v.category).sum ≤ 8) (hdg : decode cc g.pc = .ok (.invokevirtual index, 3)) (hf : cells + mc ≤ R.cells ∧ slots + ms ≤ R.slots) :
    vx_Run p l e R s m args below meth c H locs cells slots mc ms g rest (Qc (Value.ref b :: As).toArray) XC free := by
  obtain ⟨⟨hrc, hrs, hfr, hlo, hws, hcw⟩, hcode, hini, hy, hlen, hl, hin, hse⟩ := cw
  have hK : vx_Back l R p e below s args y 3 8 (PreOf R mc ms Pc) (PostOf Qc mc ms free) (vx_Post XC mc ms free) := vx_backW (hh := hh) (bytes := bytes) (maxL := maxL) (ret := ret) hM hp.1 hrc hrs hfr hlo hws hcw (fun a' U hW => word_at hW (Or.inl (by first | rfl | simp [Cond.onTables, Cond.keeps, Cond.steady])) hini)
  obtain ⟨hx, hb, hml, ho, -⟩ := S
  obtain ⟨-, ⟨cellB, hcB, hoB, hclB⟩, hPc⟩ := hp
  intro T hT X
  rcases vx_callVX X hx (C := C) (hh := hh) (bytes := bytes) (maxL := maxL) (ret := ret) ho hl hin hse hcode hy hK (by rw [hT]; exact hcB) hoB hclB hg (hsize.trans hml.symm) (argsL := As) (rest := rest) (fun sig h => hn.trans (hlen sig h)) hstack hW (by rw [hb]; exact hdg)
    (fun vm₁ hW₁ => ⟨hf.1, hf.2, hPc (T.setVm vm₁) hT hW₁⟩) with ⟨v, vm₁, ⟨U', l2, c2, s2⟩, hW₁, X', ⟨g', mk, t, L, e1, e2, hq, h1, hL, h2, h3⟩, st⟩ | ⟨q, vm₁, ⟨U', l2, c2, s2⟩, hW₁, X', ⟨g', mk, t, L, E, ce, e1, e2, hq, hce, hcv, hcl, h1, hL, h2, h3⟩, st⟩
  · dsimp only [Pt.U, Pt.locs, Pt.cells, Pt.slots] at X' e1 e2 h1 h2 h3 st
    subst h1; subst h2; subst h3
    exact Or.inl ⟨v, (T.setVm vm₁).calling g' mk (Value.ref b :: As).toArray, t, U', L, hT, X', hL, e1, e2, hq, st⟩
  · dsimp only [Pt.U, Pt.locs, Pt.cells, Pt.slots] at X' e1 e2 h1 h2 h3 st hcl
    subst h1; subst h2; subst h3
    exact Or.inr ⟨q, (T.setVm vm₁).calling g' mk (Value.ref b :: As).toArray, t, U', L, E, ce, hT, X', hL, e1, e2, hq, hce, hcv, vx_cls hW₁ hcl, st⟩
theorem vx_runSX {hh : List (Nat × Nat × Nat × Nat)} (S : CallFix p m c cc nL s args Ts own) (hM : vx_Met l y ws rm Pc Qc XC mc ms free) (cw : vx_CSW R s args own index y bytes maxL ret hh ws rm mc ms n) (hp : PreS s H Pc As)
    (hg : g.method = m) (hn : As.length = n) (hsize : g.locals.size = nL) (hstack : g.stack = As.reverse ++ rest) (hW : 2 * g.monitorRoom + (rest.map fun v => v.category).sum ≤ 8) (hdg : decode cc g.pc = .ok (.invokestatic index, 3)) (hf : cells + mc ≤ R.cells ∧ slots + ms ≤ R.slots) :
    vx_Run p l e R s m args below meth c H locs cells slots mc ms g rest (Qc As.toArray) XC free := by
  obtain ⟨⟨hrc, hrs, hfr, hlo, hws, hcw⟩, hcode, hini, hy, hlen, hl, hstt⟩ := cw
  have hK : vx_Back l R p e below s args y 3 8 (PreOf R mc ms Pc) (PostOf Qc mc ms free) (vx_Post XC mc ms free) := vx_backW (hh := hh) (bytes := bytes) (maxL := maxL) (ret := ret) hM hp.1 hrc hrs hfr hlo hws hcw (fun a' U hW => word_at hW (Or.inl (by first | rfl | simp [Cond.onTables, Cond.keeps, Cond.steady])) hini)
  obtain ⟨hx, hb, hml, ho, -⟩ := S
  intro T hT X
  rcases vx_callSX X hx (hh := hh) (bytes := bytes) (maxL := maxL) (ret := ret) ho hl hstt hini hcode hy hK hg (hsize.trans hml.symm) (argsL := As) (rest := rest) (fun sig h => hn.trans (hlen sig h)) hstack hW (by rw [hb]; exact hdg)
    (fun vm₁ hW₁ => ⟨hf.1, hf.2, hp.2 (T.setVm vm₁) hT hW₁⟩) with ⟨v, vm₁, ⟨U', l2, c2, s2⟩, hW₁, X', ⟨g', mk, t, L, e1, e2, hq, h1, hL, h2, h3⟩, st⟩ | ⟨q, vm₁, ⟨U', l2, c2, s2⟩, hW₁, X', ⟨g', mk, t, L, E, ce, e1, e2, hq, hce, hcv, hcl, h1, hL, h2, h3⟩, st⟩
  · dsimp only [Pt.U, Pt.locs, Pt.cells, Pt.slots] at X' e1 e2 h1 h2 h3 st
    subst h1; subst h2; subst h3
    exact Or.inl ⟨v, (T.setVm vm₁).calling g' mk As.toArray, t, U', L, hT, X', hL, e1, e2, hq, st⟩
  · dsimp only [Pt.U, Pt.locs, Pt.cells, Pt.slots] at X' e1 e2 h1 h2 h3 st hcl
    subst h1; subst h2; subst h3
    exact Or.inr ⟨q, (T.setVm vm₁).calling g' mk As.toArray, t, U', L, E, ce, hT, X', hL, e1, e2, hq, hce, hcv, vx_cls hW₁ hcl, st⟩
end
end VXH
theorem vx_ofWH {l : Launch} {y : MethodName} {ws ws' : List Cond} {rm : Room} {Pc : Array Value → State → Prop} {Qc : Array Value → State → Outcome → State → Prop} {XC : String → State → State → Prop} {mc ms : Nat} {free : Addr → Prop} {cc : ByteArray} {maxL : Nat} {ret : Option FieldType} {hh : List (Nat × Nat × Nat × Nat)}
    (hy : plainName y.cls = true) (hw : ws = Cond.codeWith y cc maxL ret hh :: ws')
    (body : ∀ p e s m args below meth c s₁, BodyLoose p l y (headSpec ws rm) cc maxL ret e s m args below meth c s₁ → c.maxLocals = maxL → Pc args s →
      W p l e (headSpec ws rm).room s m args below meth c s.heap [] 0 0 (vx_MQ below Qc XC args s mc ms free) (entryFrame m args maxL)) : vx_Met l y ws rm Pc Qc XC mc ms free := by
  refine MetFree.of_bodyS (code := cc) (maxLocals := maxL) (ret := ret) hy ?_ ?_
  · intro args s m h hn
    obtain ⟨m9, meth, c, hn9, h1, h2, h3, h4, -, h5, h6, -⟩ := Cond.codeWith_spec (atoms_spec (ws := ws) h _ (by rw [hw]; exact List.mem_cons_self))
    cases hn.symm.trans hn9
    exact ⟨meth, c, h1, h2, h3, h4, h5, h6⟩
  · intro p e s m args below meth c s₁ B hml hP _
    have hh0 : s₁.heap = s.heap := by rw [B.state]; rfl
    obtain ⟨t, a1, o, b1, b2, b3⟩ := body p e s m args below meth c s₁ B hml hP s₁ hh0 (Stand.of_body B)
    exact ⟨t, o, a1, b1, b2, b3⟩
/-! ===== END ===== -/

/-! ===== BEGIN printed: names, fields, word lists, decode rows ===== -/
end
section
def RX0 : String := "CoracleRace$Boat"
def TX0 : u_T := fun k => match k with
  | 0 => ("CoracleRace$Boat", "strokes", "[I", true)
  | 1 => ("CoracleRace$Boat", "length", "I", false)
  | 2 => ("CoracleRace$Boat", "strength", "I", false)
  | 3 => ("CoracleRace$Boat", "place", "I", false)
  | 4 => ("CoracleRace$Boat", "lane", "I", false)
  | 5 => ("CoracleRace$Boat", "heading", "I", false)
  | 6 => ("CoracleRace$Boat", "soaked", "I", false)
  | 7 => ("CoracleRace$Boat", "fouls", "I", false)
  | 8 => ("CoracleRace$Boat", "in", "Z", false)
  | 9 => ("CoracleRace$Boat", "tickIn", "I", false)
  | 10 => ("CoracleRace$Boat", "spins", "I", false)
  | _ => ("CoracleRace$Boat", "stops", "I", false)
def tyX0 : Nat → FieldType := fun k => match k with
  | 0 => .array .int
  | 1 => .int
  | 2 => .int
  | 3 => .int
  | 4 => .int
  | 5 => .int
  | 6 => .int
  | 7 => .int
  | 8 => .boolean
  | 9 => .int
  | 10 => .int
  | _ => .int
abbrev wsX00 : List Cond := u_ws RX0 TX0 12
theorem nmX0 : ∀ a, a < 12 → ∀ b, b < 12 → a ≠ b → (TX0 a).2.1 ≠ (TX0 b).2.1 := by decide +kernel
theorem tyX0_ok : ∀ k, k < 12 → parseFieldDescriptor (TX0 k).2.2.1 = some (tyX0 k) := by decide +kernel
abbrev cX0_init : ByteArray := prog_2_method_1_code
def yX0_init : MethodName := ⟨RX0, "<init>", "()V"⟩
abbrev cX0_start : ByteArray := prog_2_method_2_code
def yX0_start : MethodName := ⟨RX0, "start", "(II)V"⟩
abbrev cX0_copyFrom : ByteArray := prog_2_method_3_code
def yX0_copyFrom : MethodName := ⟨RX0, "copyFrom", "(LCoracleRace$Boat;)V"⟩
abbrev cX0_isIn : ByteArray := prog_2_method_4_code
def yX0_isIn : MethodName := ⟨RX0, "isIn", "()Z"⟩
abbrev cX0_time : ByteArray := prog_2_method_5_code
def yX0_time : MethodName := ⟨RX0, "time", "()I"⟩
abbrev cX0_fact : ByteArray := prog_2_method_6_code
def yX0_fact : MethodName := ⟨RX0, "fact", "(I)I"⟩
abbrev cX0_isAheadOf : ByteArray := prog_2_method_7_code
def yX0_isAheadOf : MethodName := ⟨RX0, "isAheadOf", "(LCoracleRace$Boat;)Z"⟩
abbrev cX0_takePattern : ByteArray := prog_2_method_8_code
def yX0_takePattern : MethodName := ⟨RX0, "takePattern", "(II)V"⟩
abbrev cX0_dryOut : ByteArray := prog_2_method_9_code
def yX0_dryOut : MethodName := ⟨RX0, "dryOut", "()I"⟩
abbrev cX0_letTickGoBy : ByteArray := prog_2_method_10_code
def yX0_letTickGoBy : MethodName := ⟨RX0, "letTickGoBy", "(LCoracleRace$River;I)V"⟩
abbrev cX0_strokeIn : ByteArray := prog_2_method_11_code
def yX0_strokeIn : MethodName := ⟨RX0, "strokeIn", "(I)I"⟩
abbrev cX0_forceOf : ByteArray := prog_2_method_12_code
def yX0_forceOf : MethodName := ⟨RX0, "forceOf", "(I)I"⟩
abbrev cX0_pushOf : ByteArray := prog_2_method_13_code
def yX0_pushOf : MethodName := ⟨RX0, "pushOf", "(I)I"⟩
abbrev cX0_drift : ByteArray := prog_2_method_14_code
def yX0_drift : MethodName := ⟨RX0, "drift", "()V"⟩
abbrev cX0_advance : ByteArray := prog_2_method_15_code
def yX0_advance : MethodName := ⟨RX0, "advance", "(LCoracleRace$River;I)V"⟩
abbrev cX0_soak : ByteArray := prog_2_method_16_code
def yX0_soak : MethodName := ⟨RX0, "soak", "(I)V"⟩
def RX1 : String := "CoracleRace$Fleet"
def TX1 : u_T := fun k => match k with
  | 0 => ("CoracleRace$Fleet", "boats", "[LCoracleRace$Boat;", true)
  | 1 => ("CoracleRace$Fleet", "size", "I", false)
  | _ => ("CoracleRace$Fleet", "tick", "I", false)
def tyX1 : Nat → FieldType := fun k => match k with
  | 0 => .array (.object "CoracleRace$Boat")
  | 1 => .int
  | _ => .int
abbrev wsX10 : List Cond := u_ws RX1 TX1 3
theorem nmX1 : ∀ a, a < 3 → ∀ b, b < 3 → a ≠ b → (TX1 a).2.1 ≠ (TX1 b).2.1 := by decide +kernel
theorem tyX1_ok : ∀ k, k < 3 → parseFieldDescriptor (TX1 k).2.2.1 = some (tyX1 k) := by decide +kernel
abbrev cX1_init : ByteArray := prog_3_method_1_code
def yX1_init : MethodName := ⟨RX1, "<init>", "()V"⟩
abbrev cX1_has : ByteArray := prog_3_method_2_code
def yX1_has : MethodName := ⟨RX1, "has", "(I)Z"⟩
abbrev cX1_add : ByteArray := prog_3_method_3_code
def yX1_add : MethodName := ⟨RX1, "add", "(II)I"⟩
abbrev cX1_copyFrom : ByteArray := prog_3_method_4_code
def yX1_copyFrom : MethodName := ⟨RX1, "copyFrom", "(LCoracleRace$Fleet;)V"⟩
abbrev cX1_letTicksGoBy : ByteArray := prog_3_method_5_code
def yX1_letTicksGoBy : MethodName := ⟨RX1, "letTicksGoBy", "(LCoracleRace$River;I)V"⟩
abbrev cX1_boatsIn : ByteArray := prog_3_method_6_code
def yX1_boatsIn : MethodName := ⟨RX1, "boatsIn", "()I"⟩
abbrev cX1_foulsAdded : ByteArray := prog_3_method_7_code
def yX1_foulsAdded : MethodName := ⟨RX1, "foulsAdded", "()I"⟩
abbrev cX1_placesAdded : ByteArray := prog_3_method_8_code
def yX1_placesAdded : MethodName := ⟨RX1, "placesAdded", "()I"⟩
abbrev cX1_leader : ByteArray := prog_3_method_9_code
def yX1_leader : MethodName := ⟨RX1, "leader", "()I"⟩
abbrev cX1_winner : ByteArray := prog_3_method_10_code
def yX1_winner : MethodName := ⟨RX1, "winner", "()I"⟩
abbrev cX1_rankOf : ByteArray := prog_3_method_11_code
def yX1_rankOf : MethodName := ⟨RX1, "rankOf", "(LCoracleRace$Boat;)I"⟩
def RX2 : String := "CoracleRace$River"
def TX2 : u_T := fun k => match k with
  | 0 => ("CoracleRace$River", "water", "[I", true)
  | 1 => ("CoracleRace$River", "places", "[I", true)
  | 2 => ("CoracleRace$River", "gaps", "[I", true)
  | _ => ("CoracleRace$River", "weirs", "I", false)
def tyX2 : Nat → FieldType := fun k => match k with
  | 0 => .array .int
  | 1 => .array .int
  | 2 => .array .int
  | _ => .int
abbrev wsX20 : List Cond := u_ws RX2 TX2 4
theorem nmX2 : ∀ a, a < 4 → ∀ b, b < 4 → a ≠ b → (TX2 a).2.1 ≠ (TX2 b).2.1 := by decide +kernel
theorem tyX2_ok : ∀ k, k < 4 → parseFieldDescriptor (TX2 k).2.2.1 = some (tyX2 k) := by decide +kernel
abbrev cX2_init : ByteArray := prog_4_method_1_code
def yX2_init : MethodName := ⟨RX2, "<init>", "()V"⟩
abbrev cX2_isLane : ByteArray := prog_4_method_2_code
def yX2_isLane : MethodName := ⟨RX2, "isLane", "(I)Z"⟩
abbrev cX2_hasWeirAt : ByteArray := prog_4_method_3_code
def yX2_hasWeirAt : MethodName := ⟨RX2, "hasWeirAt", "(I)Z"⟩
abbrev cX2_addWeir : ByteArray := prog_4_method_4_code
def yX2_addWeir : MethodName := ⟨RX2, "addWeir", "(II)V"⟩
abbrev cX2_firstWeirBeyond : ByteArray := prog_4_method_5_code
def yX2_firstWeirBeyond : MethodName := ⟨RX2, "firstWeirBeyond", "(I)I"⟩
abbrev cX2_firstStop : ByteArray := prog_4_method_6_code
def yX2_firstStop : MethodName := ⟨RX2, "firstStop", "(III)I"⟩
def RX3 : String := "CoracleRace"
def TX3 : u_T := fun k => match k with
  | 0 => ("CoracleRace", "river", "LCoracleRace$River;", true)
  | 1 => ("CoracleRace", "fleet", "LCoracleRace$Fleet;", true)
  | _ => ("CoracleRace", "trial", "LCoracleRace$Fleet;", true)
def tyX3 : Nat → FieldType := fun k => match k with
  | 0 => .object "CoracleRace$River"
  | 1 => .object "CoracleRace$Fleet"
  | _ => .object "CoracleRace$Fleet"
abbrev wsX30 : List Cond := u_ws RX3 TX3 3
theorem nmX3 : ∀ a, a < 3 → ∀ b, b < 3 → a ≠ b → (TX3 a).2.1 ≠ (TX3 b).2.1 := by decide +kernel
theorem tyX3_ok : ∀ k, k < 3 → parseFieldDescriptor (TX3 k).2.2.1 = some (tyX3 k) := by decide +kernel
abbrev cX3_init : ByteArray := prog_1_method_1_code
def yX3_init : MethodName := ⟨RX3, "<init>", "()V"⟩
abbrev cX3_setWater : ByteArray := prog_1_method_2_code
def yX3_setWater : MethodName := ⟨RX3, "setWater", "(II)I"⟩
abbrev cX3_weir : ByteArray := prog_1_method_3_code
def yX3_weir : MethodName := ⟨RX3, "weir", "(II)I"⟩
abbrev cX3_launch : ByteArray := prog_1_method_4_code
def yX3_launch : MethodName := ⟨RX3, "launch", "(II)I"⟩
abbrev cX3_paddle : ByteArray := prog_1_method_5_code
def yX3_paddle : MethodName := ⟨RX3, "paddle", "(III)I"⟩
abbrev cX3_tar : ByteArray := prog_1_method_6_code
def yX3_tar : MethodName := ⟨RX3, "tar", "(I)I"⟩
abbrev cX3_boat : ByteArray := prog_1_method_7_code
def yX3_boat : MethodName := ⟨RX3, "boat", "(II)I"⟩
abbrev cX3_count : ByteArray := prog_1_method_8_code
def yX3_count : MethodName := ⟨RX3, "count", "(I)I"⟩
abbrev cX3_next : ByteArray := prog_1_method_9_code
def yX3_next : MethodName := ⟨RX3, "next", "(I)I"⟩
abbrev cX3_rank : ByteArray := prog_1_method_10_code
def yX3_rank : MethodName := ⟨RX3, "rank", "(I)I"⟩
abbrev cX3_go : ByteArray := prog_1_method_11_code
def yX3_go : MethodName := ⟨RX3, "go", "(I)I"⟩
abbrev cX3_arrives : ByteArray := prog_1_method_12_code
def yX3_arrives : MethodName := ⟨RX3, "arrives", "(I)I"⟩
abbrev cX3_foresee : ByteArray := prog_1_method_13_code
def yX3_foresee : MethodName := ⟨RX3, "foresee", "(II)I"⟩
abbrev cX3_advise : ByteArray := prog_1_method_14_code
def yX3_advise : MethodName := ⟨RX3, "advise", "(II)I"⟩
abbrev cX3_mean : ByteArray := prog_1_method_15_code
def yX3_mean : MethodName := ⟨RX3, "mean", "()D"⟩
abbrev cX3_digest : ByteArray := prog_1_method_16_code
def yX3_digest : MethodName := ⟨RX3, "digest", "()J"⟩
abbrev cX3_digestWith : ByteArray := prog_1_method_17_code
def yX3_digestWith : MethodName := ⟨RX3, "digestWith", "(JLCoracleRace$Boat;)J"⟩
abbrev cX3_countIn : ByteArray := prog_1_method_18_code
def yX3_countIn : MethodName := ⟨RX3, "countIn", "(LCoracleRace$Fleet;I)I"⟩
abbrev cX3_placeWith : ByteArray := prog_1_method_19_code
def yX3_placeWith : MethodName := ⟨RX3, "placeWith", "(III)I"⟩
abbrev cX3_isPattern : ByteArray := prog_1_method_20_code
def yX3_isPattern : MethodName := ⟨RX3, "isPattern", "(II)Z"⟩
def RX4 : String := "CoracleRaceModel$State"
def TX4 : u_T := fun k => match k with
  | 0 => ("CoracleRaceModel$State", "tick", "I", false)
  | 1 => ("CoracleRaceModel$State", "place", "[I", true)
  | 2 => ("CoracleRaceModel$State", "lane", "[I", true)
  | 3 => ("CoracleRaceModel$State", "heads", "[I", true)
  | 4 => ("CoracleRaceModel$State", "soaked", "[I", true)
  | 5 => ("CoracleRaceModel$State", "fouls", "[I", true)
  | 6 => ("CoracleRaceModel$State", "came", "[I", true)
  | 7 => ("CoracleRaceModel$State", "spins", "[I", true)
  | 8 => ("CoracleRaceModel$State", "stops", "[I", true)
  | 9 => ("CoracleRaceModel$State", "length", "[I", true)
  | 10 => ("CoracleRaceModel$State", "strokes", "[I", true)
  | _ => ("CoracleRaceModel$State", "this$0", "LCoracleRaceModel;", true)
def tyX4 : Nat → FieldType := fun k => match k with
  | 0 => .int
  | 1 => .array .int
  | 2 => .array .int
  | 3 => .array .int
  | 4 => .array .int
  | 5 => .array .int
  | 6 => .array .int
  | 7 => .array .int
  | 8 => .array .int
  | 9 => .array .int
  | 10 => .array .int
  | _ => .object "CoracleRaceModel"
abbrev wsX40 : List Cond := u_ws RX4 TX4 12
theorem nmX4 : ∀ a, a < 12 → ∀ b, b < 12 → a ≠ b → (TX4 a).2.1 ≠ (TX4 b).2.1 := by decide +kernel
theorem tyX4_ok : ∀ k, k < 12 → parseFieldDescriptor (TX4 k).2.2.1 = some (tyX4 k) := by decide +kernel
abbrev cX4_init : ByteArray := prog_7_method_1_code
def yX4_init : MethodName := ⟨RX4, "<init>", "(LCoracleRaceModel;)V"⟩
abbrev cX4_copy : ByteArray := prog_7_method_2_code
def yX4_copy : MethodName := ⟨RX4, "copy", "([I[I)V"⟩
abbrev cX4_become : ByteArray := prog_7_method_3_code
def yX4_become : MethodName := ⟨RX4, "become", "(LCoracleRaceModel$State;)V"⟩
abbrev cX4_isIn : ByteArray := prog_7_method_4_code
def yX4_isIn : MethodName := ⟨RX4, "isIn", "(I)Z"⟩
abbrev cX4_time : ByteArray := prog_7_method_5_code
def yX4_time : MethodName := ⟨RX4, "time", "(I)I"⟩
abbrev cX4_stroke : ByteArray := prog_7_method_6_code
def yX4_stroke : MethodName := ⟨RX4, "stroke", "(II)I"⟩
abbrev cX4_soak : ByteArray := prog_7_method_7_code
def yX4_soak : MethodName := ⟨RX4, "soak", "(II)V"⟩
abbrev cX4_paddles : ByteArray := prog_7_method_8_code
def yX4_paddles : MethodName := ⟨RX4, "paddles", "(I)I"⟩
abbrev cX4_drift : ByteArray := prog_7_method_9_code
def yX4_drift : MethodName := ⟨RX4, "drift", "(I)V"⟩
abbrev cX4_stopsAt : ByteArray := prog_7_method_10_code
def yX4_stopsAt : MethodName := ⟨RX4, "stopsAt", "(II)I"⟩
abbrev cX4_go : ByteArray := prog_7_method_11_code
def yX4_go : MethodName := ⟨RX4, "go", "(I)V"⟩
abbrev cX4_go_ : ByteArray := prog_7_method_12_code
def yX4_go_ : MethodName := ⟨RX4, "go", "()V"⟩
abbrev cX4_in : ByteArray := prog_7_method_13_code
def yX4_in : MethodName := ⟨RX4, "in", "()I"⟩
abbrev cX4_counted : ByteArray := prog_7_method_14_code
def yX4_counted : MethodName := ⟨RX4, "counted", "(I)I"⟩
def RX5 : String := "CoracleRaceModel"
def TX5 : u_T := fun k => match k with
  | 0 => ("CoracleRaceModel", "thrown", "I", false)
  | 1 => ("CoracleRaceModel", "water", "[I", true)
  | 2 => ("CoracleRaceModel", "weirs", "I", false)
  | 3 => ("CoracleRaceModel", "weirAt", "[I", true)
  | 4 => ("CoracleRaceModel", "gap", "[I", true)
  | 5 => ("CoracleRaceModel", "boats", "I", false)
  | 6 => ("CoracleRaceModel", "strength", "[I", true)
  | 7 => ("CoracleRaceModel", "s", "LCoracleRaceModel$State;", true)
  | _ => ("CoracleRaceModel", "ahead", "LCoracleRaceModel$State;", true)
def tyX5 : Nat → FieldType := fun k => match k with
  | 0 => .int
  | 1 => .array .int
  | 2 => .int
  | 3 => .array .int
  | 4 => .array .int
  | 5 => .int
  | 6 => .array .int
  | 7 => .object "CoracleRaceModel$State"
  | _ => .object "CoracleRaceModel$State"
abbrev wsX50 : List Cond := u_ws RX5 TX5 9
theorem nmX5 : ∀ a, a < 9 → ∀ b, b < 9 → a ≠ b → (TX5 a).2.1 ≠ (TX5 b).2.1 := by decide +kernel
theorem tyX5_ok : ∀ k, k < 9 → parseFieldDescriptor (TX5 k).2.2.1 = some (tyX5 k) := by decide +kernel
abbrev cX5_init : ByteArray := prog_6_method_1_code
def yX5_init : MethodName := ⟨RX5, "<init>", "()V"⟩
abbrev cX5_thrown : ByteArray := prog_6_method_2_code
def yX5_thrown : MethodName := ⟨RX5, "thrown", "()I"⟩
abbrev cX5_no : ByteArray := prog_6_method_3_code
def yX5_no : MethodName := ⟨RX5, "no", "(I)I"⟩
abbrev cX5_isFrom : ByteArray := prog_6_method_4_code
def yX5_isFrom : MethodName := ⟨RX5, "isFrom", "(III)Z"⟩
abbrev cX5_isBoat : ByteArray := prog_6_method_5_code
def yX5_isBoat : MethodName := ⟨RX5, "isBoat", "(I)Z"⟩
abbrev cX5_setWater : ByteArray := prog_6_method_6_code
def yX5_setWater : MethodName := ⟨RX5, "setWater", "(II)I"⟩
abbrev cX5_weir : ByteArray := prog_6_method_7_code
def yX5_weir : MethodName := ⟨RX5, "weir", "(II)I"⟩
abbrev cX5_launch : ByteArray := prog_6_method_8_code
def yX5_launch : MethodName := ⟨RX5, "launch", "(II)I"⟩
abbrev cX5_isPattern : ByteArray := prog_6_method_9_code
def yX5_isPattern : MethodName := ⟨RX5, "isPattern", "(II)Z"⟩
abbrev cX5_paddle : ByteArray := prog_6_method_10_code
def yX5_paddle : MethodName := ⟨RX5, "paddle", "(III)I"⟩
abbrev cX5_tar : ByteArray := prog_6_method_11_code
def yX5_tar : MethodName := ⟨RX5, "tar", "(I)I"⟩
abbrev cX5_boatTold : ByteArray := prog_6_method_12_code
def yX5_boatTold : MethodName := ⟨RX5, "boatTold", "(II)I"⟩
abbrev cX5_boat : ByteArray := prog_6_method_13_code
def yX5_boat : MethodName := ⟨RX5, "boat", "(II)I"⟩
abbrev cX5_count : ByteArray := prog_6_method_14_code
def yX5_count : MethodName := ⟨RX5, "count", "(I)I"⟩
abbrev cX5_next : ByteArray := prog_6_method_15_code
def yX5_next : MethodName := ⟨RX5, "next", "(I)I"⟩
abbrev cX5_isAhead : ByteArray := prog_6_method_16_code
def yX5_isAhead : MethodName := ⟨RX5, "isAhead", "(II)Z"⟩
abbrev cX5_rankOf : ByteArray := prog_6_method_17_code
def yX5_rankOf : MethodName := ⟨RX5, "rankOf", "(I)I"⟩
abbrev cX5_rank : ByteArray := prog_6_method_18_code
def yX5_rank : MethodName := ⟨RX5, "rank", "(I)I"⟩
abbrev cX5_go : ByteArray := prog_6_method_19_code
def yX5_go : MethodName := ⟨RX5, "go", "(I)I"⟩
abbrev cX5_arrives : ByteArray := prog_6_method_20_code
def yX5_arrives : MethodName := ⟨RX5, "arrives", "(I)I"⟩
abbrev cX5_foresee : ByteArray := prog_6_method_21_code
def yX5_foresee : MethodName := ⟨RX5, "foresee", "(II)I"⟩
abbrev cX5_advise : ByteArray := prog_6_method_22_code
def yX5_advise : MethodName := ⟨RX5, "advise", "(II)I"⟩
abbrev cX5_mean : ByteArray := prog_6_method_23_code
def yX5_mean : MethodName := ⟨RX5, "mean", "()D"⟩
abbrev cX5_digest : ByteArray := prog_6_method_24_code
def yX5_digest : MethodName := ⟨RX5, "digest", "()J"⟩
def RJ9 : String := "java/lang/Math"
def TJ9 : u_T := fun k => match k with
  | _ => ("", "", "", false)
def tyJ9 : Nat → FieldType := fun k => match k with
  | _ => .int
abbrev wsJ90 : List Cond := u_ws RJ9 TJ9 0
theorem nmJ9 : ∀ a, a < 0 → ∀ b, b < 0 → a ≠ b → (TJ9 a).2.1 ≠ (TJ9 b).2.1 := by decide +kernel
theorem tyJ9_ok : ∀ k, k < 0 → parseFieldDescriptor (TJ9 k).2.2.1 = some (tyJ9 k) := by decide +kernel
abbrev cJ9_floorMod_7cf53 : ByteArray := prog_12_method_50_code
def yJ9_floorMod_7cf53 : MethodName := ⟨RJ9, "floorMod", "(II)I"⟩
abbrev cJ9_abs_0f7a4 : ByteArray := prog_12_method_59_code
def yJ9_abs_0f7a4 : MethodName := ⟨RJ9, "abs", "(I)I"⟩
abbrev cJ9_max_7cf53 : ByteArray := prog_12_method_65_code
def yJ9_max_7cf53 : MethodName := ⟨RJ9, "max", "(II)I"⟩
abbrev cJ9_min_7cf53 : ByteArray := prog_12_method_69_code
def yJ9_min_7cf53 : MethodName := ⟨RJ9, "min", "(II)I"⟩
def RJ0 : String := "java/lang/String"
def TJ0 : u_T := fun k => match k with
  | _ => ("", "", "", false)
def tyJ0 : Nat → FieldType := fun k => match k with
  | _ => .int
abbrev wsJ00 : List Cond := u_ws RJ0 TJ0 0
theorem nmJ0 : ∀ a, a < 0 → ∀ b, b < 0 → a ≠ b → (TJ0 a).2.1 ≠ (TJ0 b).2.1 := by decide +kernel
theorem tyJ0_ok : ∀ k, k < 0 → parseFieldDescriptor (TJ0 k).2.2.1 = some (tyJ0 k) := by decide +kernel
def RJ10 : String := "java/lang/System"
def TJ10 : u_T := fun k => match k with
  | _ => ("", "", "", false)
def tyJ10 : Nat → FieldType := fun k => match k with
  | _ => .int
abbrev wsJ100 : List Cond := u_ws RJ10 TJ10 0
theorem nmJ10 : ∀ a, a < 0 → ∀ b, b < 0 → a ≠ b → (TJ10 a).2.1 ≠ (TJ10 b).2.1 := by decide +kernel
theorem tyJ10_ok : ∀ k, k < 0 → parseFieldDescriptor (TJ10 k).2.2.1 = some (tyJ10 k) := by decide +kernel
def RL : String := "CoracleRaceLaw"
abbrev cL_setWater : ByteArray := method_3_code
def yL_setWater : MethodName := ⟨RL, "setWater", "(LCoracleRace;II[J)I"⟩
abbrev cL_weir : ByteArray := method_4_code
def yL_weir : MethodName := ⟨RL, "weir", "(LCoracleRace;II[J)I"⟩
abbrev cL_launch : ByteArray := method_5_code
def yL_launch : MethodName := ⟨RL, "launch", "(LCoracleRace;II[J)I"⟩
abbrev cL_paddle : ByteArray := method_6_code
def yL_paddle : MethodName := ⟨RL, "paddle", "(LCoracleRace;III[J)I"⟩
abbrev cL_tar : ByteArray := method_7_code
def yL_tar : MethodName := ⟨RL, "tar", "(LCoracleRace;I[J)I"⟩
abbrev cL_boat : ByteArray := method_8_code
def yL_boat : MethodName := ⟨RL, "boat", "(LCoracleRace;II[J)I"⟩
abbrev cL_count : ByteArray := method_9_code
def yL_count : MethodName := ⟨RL, "count", "(LCoracleRace;I[J)I"⟩
abbrev cL_next : ByteArray := method_10_code
def yL_next : MethodName := ⟨RL, "next", "(LCoracleRace;I[J)I"⟩
abbrev cL_rank : ByteArray := method_11_code
def yL_rank : MethodName := ⟨RL, "rank", "(LCoracleRace;I[J)I"⟩
abbrev cL_go : ByteArray := method_12_code
def yL_go : MethodName := ⟨RL, "go", "(LCoracleRace;I[J)I"⟩
abbrev cL_arrives : ByteArray := method_13_code
def yL_arrives : MethodName := ⟨RL, "arrives", "(LCoracleRace;I[J)I"⟩
abbrev cL_foresee : ByteArray := method_14_code
def yL_foresee : MethodName := ⟨RL, "foresee", "(LCoracleRace;II[J)I"⟩
abbrev cL_advise : ByteArray := method_15_code
def yL_advise : MethodName := ⟨RL, "advise", "(LCoracleRace;II[J)I"⟩
abbrev cL_law : ByteArray := code
def yL_law : MethodName := ⟨RL, "law", "([I)Z"⟩
def wsX0_init : List Cond := .code yX0_init cX0_init 1 none :: ([.methodLink RX0 1 objectInit, .instanceMethod objectInit, .code objectInit ⟨#[0xb1]⟩ 1 none, .arrayClass .int, .fieldLink RX0 9 "CoracleRace$Boat" "strokes" "[I", .fieldLink RX0 13 "CoracleRace$Boat" "length" "I", .fieldLink RX0 17 "CoracleRace$Boat" "strength" "I", .fieldLink RX0 20 "CoracleRace$Boat" "place" "I", .fieldLink RX0 23 "CoracleRace$Boat" "lane" "I", .fieldLink RX0 26 "CoracleRace$Boat" "heading" "I", .fieldLink RX0 29 "CoracleRace$Boat" "soaked" "I", .fieldLink RX0 32 "CoracleRace$Boat" "fouls" "I", .fieldLink RX0 35 "CoracleRace$Boat" "in" "Z", .fieldLink RX0 39 "CoracleRace$Boat" "tickIn" "I", .fieldLink RX0 42 "CoracleRace$Boat" "spins" "I", .fieldLink RX0 45 "CoracleRace$Boat" "stops" "I"] ++ wsX00)
def wsX0_takePattern : List Cond := .code yX0_takePattern cX0_takePattern 5 none :: ([.fieldLink RX0 9 "CoracleRace$Boat" "strokes" "[I", .fieldLink RX0 13 "CoracleRace$Boat" "length" "I"] ++ wsX00)
def wsX0_start : List Cond := .code yX0_start cX0_start 3 none :: ([.fieldLink RX0 23 "CoracleRace$Boat" "lane" "I", .fieldLink RX0 17 "CoracleRace$Boat" "strength" "I", .methodLink RX0 48 yX0_takePattern, .instanceMethod yX0_takePattern, .selects RX0 yX0_takePattern yX0_takePattern, .initialized RX0, .code yX0_takePattern cX0_takePattern 5 none, .fieldLink RX0 9 "CoracleRace$Boat" "strokes" "[I", .fieldLink RX0 13 "CoracleRace$Boat" "length" "I"] ++ wsX00)
def wsX0_copyFrom : List Cond := .code yX0_copyFrom cX0_copyFrom 2 none :: ([.fieldLink RX0 9 "CoracleRace$Boat" "strokes" "[I", .methodLink RX0 52 arraycopyName, .native arraycopyName, .static arraycopyName, .initialized "java/lang/System", .fieldLink RX0 13 "CoracleRace$Boat" "length" "I", .fieldLink RX0 17 "CoracleRace$Boat" "strength" "I", .fieldLink RX0 20 "CoracleRace$Boat" "place" "I", .fieldLink RX0 23 "CoracleRace$Boat" "lane" "I", .fieldLink RX0 26 "CoracleRace$Boat" "heading" "I", .fieldLink RX0 29 "CoracleRace$Boat" "soaked" "I", .fieldLink RX0 32 "CoracleRace$Boat" "fouls" "I", .fieldLink RX0 35 "CoracleRace$Boat" "in" "Z", .fieldLink RX0 39 "CoracleRace$Boat" "tickIn" "I", .fieldLink RX0 42 "CoracleRace$Boat" "spins" "I", .fieldLink RX0 45 "CoracleRace$Boat" "stops" "I"] ++ wsX00)
def wsX0_isIn : List Cond := .code yX0_isIn cX0_isIn 1 (some .boolean) :: ([.fieldLink RX0 35 "CoracleRace$Boat" "in" "Z"] ++ wsX00)
def wsX0_time : List Cond := .code yX0_time cX0_time 1 (some .int) :: ([.fieldLink RX0 35 "CoracleRace$Boat" "in" "Z", .fieldLink RX0 39 "CoracleRace$Boat" "tickIn" "I", .fieldLink RX0 32 "CoracleRace$Boat" "fouls" "I"] ++ wsX00)
def wsX0_fact : List Cond := .code yX0_fact cX0_fact 2 (some .int) :: ([.fieldLink RX0 20 "CoracleRace$Boat" "place" "I", .fieldLink RX0 23 "CoracleRace$Boat" "lane" "I", .fieldLink RX0 26 "CoracleRace$Boat" "heading" "I", .fieldLink RX0 29 "CoracleRace$Boat" "soaked" "I", .fieldLink RX0 32 "CoracleRace$Boat" "fouls" "I", .fieldLink RX0 35 "CoracleRace$Boat" "in" "Z", .fieldLink RX0 42 "CoracleRace$Boat" "spins" "I", .fieldLink RX0 45 "CoracleRace$Boat" "stops" "I", .methodLink RX0 58 yX0_time, .instanceMethod yX0_time, .selects RX0 yX0_time yX0_time, .initialized RX0, .code yX0_time cX0_time 1 (some .int), .fieldLink RX0 39 "CoracleRace$Boat" "tickIn" "I"] ++ wsX00)
def wsX0_isAheadOf : List Cond := .code yX0_isAheadOf cX0_isAheadOf 2 (some .boolean) :: ([.fieldLink RX0 35 "CoracleRace$Boat" "in" "Z", .fieldLink RX0 20 "CoracleRace$Boat" "place" "I", .methodLink RX0 58 yX0_time, .instanceMethod yX0_time, .selects RX0 yX0_time yX0_time, .initialized RX0, .code yX0_time cX0_time 1 (some .int), .fieldLink RX0 39 "CoracleRace$Boat" "tickIn" "I", .fieldLink RX0 32 "CoracleRace$Boat" "fouls" "I"] ++ wsX00)
def wsX0_dryOut : List Cond := .code yX0_dryOut cX0_dryOut 2 (some .int) :: ([.fieldLink RX0 29 "CoracleRace$Boat" "soaked" "I", .fieldLink RX0 32 "CoracleRace$Boat" "fouls" "I"] ++ wsX00)
def wsJ9_floorMod_7cf53 : List Cond := .code yJ9_floorMod_7cf53 cJ9_floorMod_7cf53 3 (some .int) :: ([])
def wsX0_strokeIn : List Cond := .code yX0_strokeIn cX0_strokeIn 2 (some .int) :: ([.fieldLink RX0 13 "CoracleRace$Boat" "length" "I", .fieldLink RX0 9 "CoracleRace$Boat" "strokes" "[I", .methodLink RX0 82 yJ9_floorMod_7cf53, .static yJ9_floorMod_7cf53, .initialized RJ9, .code yJ9_floorMod_7cf53 cJ9_floorMod_7cf53 3 (some .int)] ++ wsX00)
def wsX0_pushOf : List Cond := .code yX0_pushOf cX0_pushOf 2 (some .int) :: ([.fieldLink RX0 17 "CoracleRace$Boat" "strength" "I"] ++ wsX00)
def wsX0_forceOf : List Cond := .code yX0_forceOf cX0_forceOf 2 (some .int) :: ([.fieldLink RX0 26 "CoracleRace$Boat" "heading" "I", .fieldLink RX0 42 "CoracleRace$Boat" "spins" "I", .fieldLink RX0 29 "CoracleRace$Boat" "soaked" "I", .methodLink RX0 91 Lib.Math.max.name, .static Lib.Math.max.name, .initialized "java/lang/Math", .code Lib.Math.max.name Lib.Math.max.code 2 (some .int), .methodLink RX0 88 yX0_pushOf, .instanceMethod yX0_pushOf, .selects RX0 yX0_pushOf yX0_pushOf, .initialized RX0, .code yX0_pushOf cX0_pushOf 2 (some .int), .fieldLink RX0 17 "CoracleRace$Boat" "strength" "I"] ++ wsX00)
def wsX2_isLane : List Cond := .code yX2_isLane cX2_isLane 1 (some .boolean) :: ([])
def wsX0_drift : List Cond := .code yX0_drift cX0_drift 2 none :: ([.fieldLink RX0 23 "CoracleRace$Boat" "lane" "I", .fieldLink RX0 26 "CoracleRace$Boat" "heading" "I", .fieldLink RX0 32 "CoracleRace$Boat" "fouls" "I", .methodLink RX0 94 yX2_isLane, .static yX2_isLane, .initialized RX2, .code yX2_isLane cX2_isLane 1 (some .boolean)] ++ wsX00)
def wsX2_firstStop : List Cond := .code yX2_firstStop cX2_firstStop 7 (some .int) :: ([.fieldLink RX2 19 "CoracleRace$River" "weirs" "I", .fieldLink RX2 13 "CoracleRace$River" "places" "[I", .fieldLink RX2 16 "CoracleRace$River" "gaps" "[I"] ++ wsX20)
def wsX0_soak : List Cond := .code yX0_soak cX0_soak 2 none :: ([.fieldLink RX0 29 "CoracleRace$Boat" "soaked" "I", .methodLink RX0 108 Lib.Math.min.name, .static Lib.Math.min.name, .initialized "java/lang/Math", .code Lib.Math.min.name Lib.Math.min.code 2 (some .int)] ++ wsX00)
def wsX0_advance_r1 : List Cond := [Cond.fieldLink RX0 23 "CoracleRace$Boat" "lane" "I", Cond.fieldLink RX0 26 "CoracleRace$Boat" "heading" "I", Cond.methodLink RX0 98 Lib.Math.abs.name, Cond.static Lib.Math.abs.name, Cond.initialized "java/lang/Math", Cond.code Lib.Math.abs.name Lib.Math.abs.code 1 (some .int), Cond.fieldLink RX0 101 "CoracleRace$River" "water" "[I", Cond.fieldLink RX0 20 "CoracleRace$Boat" "place" "I", Cond.methodLink RX0 108 Lib.Math.min.name, Cond.static Lib.Math.min.name, Cond.code Lib.Math.min.name Lib.Math.min.code 2 (some .int), Cond.fieldLink RX0 45 "CoracleRace$Boat" "stops" "I", Cond.methodLink RX0 94 yX2_isLane, Cond.static yX2_isLane, Cond.initialized RX2, Cond.code yX2_isLane cX2_isLane 1 (some .boolean), Cond.methodLink RX0 104 yX2_firstStop, Cond.instanceMethod yX2_firstStop, Cond.selects RX2 yX2_firstStop yX2_firstStop, Cond.code yX2_firstStop cX2_firstStop 7 (some .int), Cond.fieldLink RX2 19 "CoracleRace$River" "weirs" "I", Cond.fieldLink RX2 13 "CoracleRace$River" "places" "[I", Cond.fieldLink RX2 16 "CoracleRace$River" "gaps" "[I", Cond.methodLink RX0 76 yX0_soak]
def wsX0_advance_r2 : List Cond := [Cond.instanceMethod yX0_soak, Cond.selects RX0 yX0_soak yX0_soak, Cond.initialized RX0, Cond.code yX0_soak cX0_soak 2 none, Cond.fieldLink RX0 29 "CoracleRace$Boat" "soaked" "I"]
def wsX0_advance : List Cond := .code yX0_advance cX0_advance 5 none :: ((wsX0_advance_r1 ++ wsX0_advance_r2) ++ wsX00 ++ wsX20)
def wsX0_letTickGoBy_r1 : List Cond := [Cond.fieldLink RX0 35 "CoracleRace$Boat" "in" "Z", Cond.fieldLink RX0 20 "CoracleRace$Boat" "place" "I", Cond.fieldLink RX0 39 "CoracleRace$Boat" "tickIn" "I", Cond.methodLink RX0 62 yX0_strokeIn, Cond.instanceMethod yX0_strokeIn, Cond.selects RX0 yX0_strokeIn yX0_strokeIn, Cond.initialized RX0, Cond.code yX0_strokeIn cX0_strokeIn 2 (some .int), Cond.fieldLink RX0 13 "CoracleRace$Boat" "length" "I", Cond.fieldLink RX0 9 "CoracleRace$Boat" "strokes" "[I", Cond.methodLink RX0 82 yJ9_floorMod_7cf53, Cond.static yJ9_floorMod_7cf53, Cond.initialized RJ9, Cond.code yJ9_floorMod_7cf53 cJ9_floorMod_7cf53 3 (some .int), Cond.methodLink RX0 66 yX0_forceOf, Cond.instanceMethod yX0_forceOf, Cond.selects RX0 yX0_forceOf yX0_forceOf, Cond.code yX0_forceOf cX0_forceOf 2 (some .int), Cond.fieldLink RX0 26 "CoracleRace$Boat" "heading" "I", Cond.fieldLink RX0 42 "CoracleRace$Boat" "spins" "I", Cond.fieldLink RX0 29 "CoracleRace$Boat" "soaked" "I", Cond.methodLink RX0 91 Lib.Math.max.name, Cond.static Lib.Math.max.name, Cond.initialized "java/lang/Math"]
def wsX0_letTickGoBy_r2 : List Cond := [Cond.code Lib.Math.max.name Lib.Math.max.code 2 (some .int), Cond.methodLink RX0 88 yX0_pushOf, Cond.instanceMethod yX0_pushOf, Cond.selects RX0 yX0_pushOf yX0_pushOf, Cond.code yX0_pushOf cX0_pushOf 2 (some .int), Cond.fieldLink RX0 17 "CoracleRace$Boat" "strength" "I", Cond.methodLink RX0 69 yX0_drift, Cond.instanceMethod yX0_drift, Cond.selects RX0 yX0_drift yX0_drift, Cond.code yX0_drift cX0_drift 2 none, Cond.fieldLink RX0 23 "CoracleRace$Boat" "lane" "I", Cond.fieldLink RX0 32 "CoracleRace$Boat" "fouls" "I", Cond.methodLink RX0 94 yX2_isLane, Cond.static yX2_isLane, Cond.initialized RX2, Cond.code yX2_isLane cX2_isLane 1 (some .boolean), Cond.methodLink RX0 72 yX0_advance, Cond.instanceMethod yX0_advance, Cond.selects RX0 yX0_advance yX0_advance, Cond.code yX0_advance cX0_advance 5 none, Cond.methodLink RX0 98 Lib.Math.abs.name, Cond.static Lib.Math.abs.name, Cond.code Lib.Math.abs.name Lib.Math.abs.code 1 (some .int), Cond.fieldLink RX0 101 "CoracleRace$River" "water" "[I"]
def wsX0_letTickGoBy_r3 : List Cond := [Cond.methodLink RX0 108 Lib.Math.min.name, Cond.static Lib.Math.min.name, Cond.code Lib.Math.min.name Lib.Math.min.code 2 (some .int), Cond.fieldLink RX0 45 "CoracleRace$Boat" "stops" "I", Cond.methodLink RX0 104 yX2_firstStop, Cond.instanceMethod yX2_firstStop, Cond.selects RX2 yX2_firstStop yX2_firstStop, Cond.code yX2_firstStop cX2_firstStop 7 (some .int), Cond.fieldLink RX2 19 "CoracleRace$River" "weirs" "I", Cond.fieldLink RX2 13 "CoracleRace$River" "places" "[I", Cond.fieldLink RX2 16 "CoracleRace$River" "gaps" "[I", Cond.methodLink RX0 76 yX0_soak, Cond.instanceMethod yX0_soak, Cond.selects RX0 yX0_soak yX0_soak, Cond.code yX0_soak cX0_soak 2 none]
def wsX0_letTickGoBy : List Cond := .code yX0_letTickGoBy cX0_letTickGoBy 4 none :: ((wsX0_letTickGoBy_r1 ++ (wsX0_letTickGoBy_r2 ++ wsX0_letTickGoBy_r3)) ++ wsX00 ++ wsX20)
def wsX1_init_r1 : List Cond := [Cond.methodLink RX1 1 objectInit, Cond.instanceMethod objectInit, Cond.code objectInit ⟨#[0xb1]⟩ 1 none, Cond.classLink RX1 9 RX0, Cond.fieldLink RX1 11 "CoracleRace$Fleet" "boats" "[LCoracleRace$Boat;", Cond.fieldLink RX1 15 "CoracleRace$Fleet" "size" "I", Cond.fieldLink RX1 19 "CoracleRace$Fleet" "tick" "I", Cond.instantiable RX0 12, Cond.initialized RX0, Cond.instanceMethod yX0_init, Cond.code yX0_init cX0_init 1 none, Cond.methodLink RX0 1 objectInit, Cond.arrayClass .int, Cond.fieldLink RX0 9 "CoracleRace$Boat" "strokes" "[I", Cond.fieldLink RX0 13 "CoracleRace$Boat" "length" "I", Cond.fieldLink RX0 17 "CoracleRace$Boat" "strength" "I", Cond.fieldLink RX0 20 "CoracleRace$Boat" "place" "I", Cond.fieldLink RX0 23 "CoracleRace$Boat" "lane" "I", Cond.fieldLink RX0 26 "CoracleRace$Boat" "heading" "I", Cond.fieldLink RX0 29 "CoracleRace$Boat" "soaked" "I", Cond.fieldLink RX0 32 "CoracleRace$Boat" "fouls" "I", Cond.fieldLink RX0 35 "CoracleRace$Boat" "in" "Z", Cond.fieldLink RX0 39 "CoracleRace$Boat" "tickIn" "I", Cond.fieldLink RX0 42 "CoracleRace$Boat" "spins" "I"]
def wsX1_init_r2 : List Cond := [Cond.fieldLink RX0 45 "CoracleRace$Boat" "stops" "I"]
def wsX1_init : List Cond := .code yX1_init cX1_init 2 none :: ((wsX1_init_r1 ++ wsX1_init_r2) ++ wsX10 ++ wsX00)
def wsX1_has : List Cond := .code yX1_has cX1_has 2 (some .boolean) :: ([.fieldLink RX1 15 "CoracleRace$Fleet" "size" "I"] ++ wsX10)
def wsX1_add : List Cond := .code yX1_add cX1_add 3 (some .int) :: ([.fieldLink RX1 15 "CoracleRace$Fleet" "size" "I", .fieldLink RX1 11 "CoracleRace$Fleet" "boats" "[LCoracleRace$Boat;", .methodLink RX1 23 yX0_start, .instanceMethod yX0_start, .selects RX0 yX0_start yX0_start, .initialized RX0, .code yX0_start cX0_start 3 none, .fieldLink RX0 23 "CoracleRace$Boat" "lane" "I", .fieldLink RX0 17 "CoracleRace$Boat" "strength" "I", .methodLink RX0 48 yX0_takePattern, .instanceMethod yX0_takePattern, .selects RX0 yX0_takePattern yX0_takePattern, .code yX0_takePattern cX0_takePattern 5 none, .fieldLink RX0 9 "CoracleRace$Boat" "strokes" "[I", .fieldLink RX0 13 "CoracleRace$Boat" "length" "I"] ++ wsX10 ++ wsX00)
def wsX1_copyFrom : List Cond := .code yX1_copyFrom cX1_copyFrom 3 none :: ([.fieldLink RX1 15 "CoracleRace$Fleet" "size" "I", .fieldLink RX1 19 "CoracleRace$Fleet" "tick" "I", .fieldLink RX1 11 "CoracleRace$Fleet" "boats" "[LCoracleRace$Boat;", .methodLink RX1 27 yX0_copyFrom, .instanceMethod yX0_copyFrom, .selects RX0 yX0_copyFrom yX0_copyFrom, .initialized RX0, .code yX0_copyFrom cX0_copyFrom 2 none, .fieldLink RX0 9 "CoracleRace$Boat" "strokes" "[I", .methodLink RX0 52 arraycopyName, .native arraycopyName, .static arraycopyName, .initialized "java/lang/System", .fieldLink RX0 13 "CoracleRace$Boat" "length" "I", .fieldLink RX0 17 "CoracleRace$Boat" "strength" "I", .fieldLink RX0 20 "CoracleRace$Boat" "place" "I", .fieldLink RX0 23 "CoracleRace$Boat" "lane" "I", .fieldLink RX0 26 "CoracleRace$Boat" "heading" "I", .fieldLink RX0 29 "CoracleRace$Boat" "soaked" "I", .fieldLink RX0 32 "CoracleRace$Boat" "fouls" "I", .fieldLink RX0 35 "CoracleRace$Boat" "in" "Z", .fieldLink RX0 39 "CoracleRace$Boat" "tickIn" "I", .fieldLink RX0 42 "CoracleRace$Boat" "spins" "I", .fieldLink RX0 45 "CoracleRace$Boat" "stops" "I"] ++ wsX10 ++ wsX00)
def wsX1_letTicksGoBy_r1 : List Cond := [Cond.fieldLink RX1 15 "CoracleRace$Fleet" "size" "I", Cond.fieldLink RX1 11 "CoracleRace$Fleet" "boats" "[LCoracleRace$Boat;", Cond.fieldLink RX1 19 "CoracleRace$Fleet" "tick" "I", Cond.methodLink RX1 31 yX0_letTickGoBy, Cond.instanceMethod yX0_letTickGoBy, Cond.selects RX0 yX0_letTickGoBy yX0_letTickGoBy, Cond.initialized RX0, Cond.code yX0_letTickGoBy cX0_letTickGoBy 4 none, Cond.fieldLink RX0 35 "CoracleRace$Boat" "in" "Z", Cond.fieldLink RX0 20 "CoracleRace$Boat" "place" "I", Cond.fieldLink RX0 39 "CoracleRace$Boat" "tickIn" "I", Cond.methodLink RX0 62 yX0_strokeIn, Cond.instanceMethod yX0_strokeIn, Cond.selects RX0 yX0_strokeIn yX0_strokeIn, Cond.code yX0_strokeIn cX0_strokeIn 2 (some .int), Cond.fieldLink RX0 13 "CoracleRace$Boat" "length" "I", Cond.fieldLink RX0 9 "CoracleRace$Boat" "strokes" "[I", Cond.methodLink RX0 82 yJ9_floorMod_7cf53, Cond.static yJ9_floorMod_7cf53, Cond.initialized RJ9, Cond.code yJ9_floorMod_7cf53 cJ9_floorMod_7cf53 3 (some .int), Cond.methodLink RX0 66 yX0_forceOf, Cond.instanceMethod yX0_forceOf, Cond.selects RX0 yX0_forceOf yX0_forceOf]
def wsX1_letTicksGoBy_r2 : List Cond := [Cond.code yX0_forceOf cX0_forceOf 2 (some .int), Cond.fieldLink RX0 26 "CoracleRace$Boat" "heading" "I", Cond.fieldLink RX0 42 "CoracleRace$Boat" "spins" "I", Cond.fieldLink RX0 29 "CoracleRace$Boat" "soaked" "I", Cond.methodLink RX0 91 Lib.Math.max.name, Cond.static Lib.Math.max.name, Cond.initialized "java/lang/Math", Cond.code Lib.Math.max.name Lib.Math.max.code 2 (some .int), Cond.methodLink RX0 88 yX0_pushOf, Cond.instanceMethod yX0_pushOf, Cond.selects RX0 yX0_pushOf yX0_pushOf, Cond.code yX0_pushOf cX0_pushOf 2 (some .int), Cond.fieldLink RX0 17 "CoracleRace$Boat" "strength" "I", Cond.methodLink RX0 69 yX0_drift, Cond.instanceMethod yX0_drift, Cond.selects RX0 yX0_drift yX0_drift, Cond.code yX0_drift cX0_drift 2 none, Cond.fieldLink RX0 23 "CoracleRace$Boat" "lane" "I", Cond.fieldLink RX0 32 "CoracleRace$Boat" "fouls" "I", Cond.methodLink RX0 94 yX2_isLane, Cond.static yX2_isLane, Cond.initialized RX2, Cond.code yX2_isLane cX2_isLane 1 (some .boolean), Cond.methodLink RX0 72 yX0_advance]
def wsX1_letTicksGoBy_r3 : List Cond := [Cond.instanceMethod yX0_advance, Cond.selects RX0 yX0_advance yX0_advance, Cond.code yX0_advance cX0_advance 5 none, Cond.methodLink RX0 98 Lib.Math.abs.name, Cond.static Lib.Math.abs.name, Cond.code Lib.Math.abs.name Lib.Math.abs.code 1 (some .int), Cond.fieldLink RX0 101 "CoracleRace$River" "water" "[I", Cond.methodLink RX0 108 Lib.Math.min.name, Cond.static Lib.Math.min.name, Cond.code Lib.Math.min.name Lib.Math.min.code 2 (some .int), Cond.fieldLink RX0 45 "CoracleRace$Boat" "stops" "I", Cond.methodLink RX0 104 yX2_firstStop, Cond.instanceMethod yX2_firstStop, Cond.selects RX2 yX2_firstStop yX2_firstStop, Cond.code yX2_firstStop cX2_firstStop 7 (some .int), Cond.fieldLink RX2 19 "CoracleRace$River" "weirs" "I", Cond.fieldLink RX2 13 "CoracleRace$River" "places" "[I", Cond.fieldLink RX2 16 "CoracleRace$River" "gaps" "[I", Cond.methodLink RX0 76 yX0_soak, Cond.instanceMethod yX0_soak, Cond.selects RX0 yX0_soak yX0_soak, Cond.code yX0_soak cX0_soak 2 none]
def wsX1_letTicksGoBy : List Cond := .code yX1_letTicksGoBy cX1_letTicksGoBy 5 none :: ((wsX1_letTicksGoBy_r1 ++ (wsX1_letTicksGoBy_r2 ++ wsX1_letTicksGoBy_r3)) ++ wsX10 ++ wsX00 ++ wsX20)
def wsX1_boatsIn : List Cond := .code yX1_boatsIn cX1_boatsIn 3 (some .int) :: ([.fieldLink RX1 15 "CoracleRace$Fleet" "size" "I", .fieldLink RX1 11 "CoracleRace$Fleet" "boats" "[LCoracleRace$Boat;", .methodLink RX1 35 yX0_isIn, .instanceMethod yX0_isIn, .selects RX0 yX0_isIn yX0_isIn, .initialized RX0, .code yX0_isIn cX0_isIn 1 (some .boolean), .fieldLink RX0 35 "CoracleRace$Boat" "in" "Z"] ++ wsX10 ++ wsX00)
def wsX1_foulsAdded : List Cond := .code yX1_foulsAdded cX1_foulsAdded 3 (some .int) :: ([.fieldLink RX1 15 "CoracleRace$Fleet" "size" "I", .fieldLink RX1 11 "CoracleRace$Fleet" "boats" "[LCoracleRace$Boat;", .fieldLink RX1 39 "CoracleRace$Boat" "fouls" "I"] ++ wsX10 ++ wsX00)
def wsX1_placesAdded : List Cond := .code yX1_placesAdded cX1_placesAdded 3 (some .int) :: ([.fieldLink RX1 15 "CoracleRace$Fleet" "size" "I", .fieldLink RX1 11 "CoracleRace$Fleet" "boats" "[LCoracleRace$Boat;", .fieldLink RX1 42 "CoracleRace$Boat" "place" "I"] ++ wsX10 ++ wsX00)
def wsX1_leader : List Cond := .code yX1_leader cX1_leader 4 (some .int) :: ([.fieldLink RX1 15 "CoracleRace$Fleet" "size" "I", .fieldLink RX1 11 "CoracleRace$Fleet" "boats" "[LCoracleRace$Boat;", .fieldLink RX1 42 "CoracleRace$Boat" "place" "I", .methodLink RX1 35 yX0_isIn, .instanceMethod yX0_isIn, .selects RX0 yX0_isIn yX0_isIn, .initialized RX0, .code yX0_isIn cX0_isIn 1 (some .boolean), .fieldLink RX0 35 "CoracleRace$Boat" "in" "Z"] ++ wsX10 ++ wsX00)
def wsX1_winner : List Cond := .code yX1_winner cX1_winner 4 (some .int) :: ([.fieldLink RX1 15 "CoracleRace$Fleet" "size" "I", .fieldLink RX1 11 "CoracleRace$Fleet" "boats" "[LCoracleRace$Boat;", .methodLink RX1 35 yX0_isIn, .instanceMethod yX0_isIn, .selects RX0 yX0_isIn yX0_isIn, .initialized RX0, .code yX0_isIn cX0_isIn 1 (some .boolean), .fieldLink RX0 35 "CoracleRace$Boat" "in" "Z", .methodLink RX1 45 yX0_time, .instanceMethod yX0_time, .selects RX0 yX0_time yX0_time, .code yX0_time cX0_time 1 (some .int), .fieldLink RX0 39 "CoracleRace$Boat" "tickIn" "I", .fieldLink RX0 32 "CoracleRace$Boat" "fouls" "I"] ++ wsX10 ++ wsX00)
def wsX1_rankOf : List Cond := .code yX1_rankOf cX1_rankOf 4 (some .int) :: ([.fieldLink RX1 15 "CoracleRace$Fleet" "size" "I", .fieldLink RX1 11 "CoracleRace$Fleet" "boats" "[LCoracleRace$Boat;", .methodLink RX1 49 yX0_isAheadOf, .instanceMethod yX0_isAheadOf, .selects RX0 yX0_isAheadOf yX0_isAheadOf, .initialized RX0, .code yX0_isAheadOf cX0_isAheadOf 2 (some .boolean), .fieldLink RX0 35 "CoracleRace$Boat" "in" "Z", .fieldLink RX0 20 "CoracleRace$Boat" "place" "I", .methodLink RX0 58 yX0_time, .instanceMethod yX0_time, .selects RX0 yX0_time yX0_time, .code yX0_time cX0_time 1 (some .int), .fieldLink RX0 39 "CoracleRace$Boat" "tickIn" "I", .fieldLink RX0 32 "CoracleRace$Boat" "fouls" "I"] ++ wsX10 ++ wsX00)
def wsX2_init : List Cond := .code yX2_init cX2_init 1 none :: ([.methodLink RX2 1 objectInit, .instanceMethod objectInit, .code objectInit ⟨#[0xb1]⟩ 1 none, .arrayClass .int, .fieldLink RX2 7 "CoracleRace$River" "water" "[I", .fieldLink RX2 13 "CoracleRace$River" "places" "[I", .fieldLink RX2 16 "CoracleRace$River" "gaps" "[I", .fieldLink RX2 19 "CoracleRace$River" "weirs" "I"] ++ wsX20)
def wsX2_hasWeirAt : List Cond := .code yX2_hasWeirAt cX2_hasWeirAt 3 (some .boolean) :: ([.fieldLink RX2 19 "CoracleRace$River" "weirs" "I", .fieldLink RX2 13 "CoracleRace$River" "places" "[I"] ++ wsX20)
def wsX2_addWeir : List Cond := .code yX2_addWeir cX2_addWeir 3 none :: ([.fieldLink RX2 19 "CoracleRace$River" "weirs" "I", .fieldLink RX2 13 "CoracleRace$River" "places" "[I", .fieldLink RX2 16 "CoracleRace$River" "gaps" "[I"] ++ wsX20)
def wsX2_firstWeirBeyond : List Cond := .code yX2_firstWeirBeyond cX2_firstWeirBeyond 4 (some .int) :: ([.fieldLink RX2 19 "CoracleRace$River" "weirs" "I", .fieldLink RX2 13 "CoracleRace$River" "places" "[I"] ++ wsX20)
def wsX3_init_r1 : List Cond := [Cond.methodLink RX3 1 objectInit, Cond.instanceMethod objectInit, Cond.code objectInit ⟨#[0xb1]⟩ 1 none, Cond.classLink RX3 7 RX2, Cond.instantiable RX2 4, Cond.initialized RX2, Cond.fieldLink RX3 10 "CoracleRace" "river" "LCoracleRace$River;", Cond.classLink RX3 16 RX1, Cond.instantiable RX1 3, Cond.initialized RX1, Cond.fieldLink RX3 19 "CoracleRace" "fleet" "LCoracleRace$Fleet;", Cond.fieldLink RX3 23 "CoracleRace" "trial" "LCoracleRace$Fleet;", Cond.instanceMethod yX2_init, Cond.code yX2_init cX2_init 1 none, Cond.methodLink RX2 1 objectInit, Cond.arrayClass .int, Cond.fieldLink RX2 7 "CoracleRace$River" "water" "[I", Cond.fieldLink RX2 13 "CoracleRace$River" "places" "[I", Cond.fieldLink RX2 16 "CoracleRace$River" "gaps" "[I", Cond.fieldLink RX2 19 "CoracleRace$River" "weirs" "I", Cond.methodLink RX3 18 yX1_init, Cond.instanceMethod yX1_init, Cond.code yX1_init cX1_init 2 none, Cond.methodLink RX1 1 objectInit]
def wsX3_init_r2 : List Cond := [Cond.classLink RX1 9 RX0, Cond.fieldLink RX1 11 "CoracleRace$Fleet" "boats" "[LCoracleRace$Boat;", Cond.fieldLink RX1 15 "CoracleRace$Fleet" "size" "I", Cond.fieldLink RX1 19 "CoracleRace$Fleet" "tick" "I", Cond.instantiable RX0 12, Cond.initialized RX0, Cond.instanceMethod yX0_init, Cond.code yX0_init cX0_init 1 none, Cond.methodLink RX0 1 objectInit, Cond.fieldLink RX0 9 "CoracleRace$Boat" "strokes" "[I", Cond.fieldLink RX0 13 "CoracleRace$Boat" "length" "I", Cond.fieldLink RX0 17 "CoracleRace$Boat" "strength" "I", Cond.fieldLink RX0 20 "CoracleRace$Boat" "place" "I", Cond.fieldLink RX0 23 "CoracleRace$Boat" "lane" "I", Cond.fieldLink RX0 26 "CoracleRace$Boat" "heading" "I", Cond.fieldLink RX0 29 "CoracleRace$Boat" "soaked" "I", Cond.fieldLink RX0 32 "CoracleRace$Boat" "fouls" "I", Cond.fieldLink RX0 35 "CoracleRace$Boat" "in" "Z", Cond.fieldLink RX0 39 "CoracleRace$Boat" "tickIn" "I", Cond.fieldLink RX0 42 "CoracleRace$Boat" "spins" "I", Cond.fieldLink RX0 45 "CoracleRace$Boat" "stops" "I"]
def wsX3_init : List Cond := .code yX3_init cX3_init 1 none :: ((wsX3_init_r1 ++ wsX3_init_r2) ++ wsX20 ++ wsX30 ++ wsX10 ++ wsX00)
def wsX3_setWater : List Cond := .code yX3_setWater cX3_setWater 4 (some .int) :: ([.classLink RX3 30 "java/lang/IndexOutOfBoundsException", .initialized "java/lang/IndexOutOfBoundsException", .classLink RX3 37 "java/lang/IllegalArgumentException", .initialized "java/lang/IllegalArgumentException", .fieldLink RX3 10 "CoracleRace" "river" "LCoracleRace$River;", .fieldLink RX3 42 "CoracleRace$River" "water" "[I", .methodLink RX3 26 yX2_isLane, .static yX2_isLane, .initialized RX2, .code yX2_isLane cX2_isLane 1 (some .boolean)] ++ wsX30 ++ wsX20 ++ (vx_atS RX3 34 "java/lang/IndexOutOfBoundsException" ["java/lang/RuntimeException", "java/lang/Exception"]).filter goodWord ++ (vx_atS RX3 41 "java/lang/IllegalArgumentException" ["java/lang/RuntimeException", "java/lang/Exception"]).filter goodWord)
def wsX3_weir : List Cond := .code yX3_weir cX3_weir 3 (some .int) :: ([.classLink RX3 37 "java/lang/IllegalArgumentException", .initialized "java/lang/IllegalArgumentException", .classLink RX3 54 "java/lang/IllegalStateException", .initialized "java/lang/IllegalStateException", .fieldLink RX3 10 "CoracleRace" "river" "LCoracleRace$River;", .fieldLink RX3 50 "CoracleRace$River" "weirs" "I", .methodLink RX3 26 yX2_isLane, .static yX2_isLane, .initialized RX2, .code yX2_isLane cX2_isLane 1 (some .boolean), .methodLink RX3 59 yX2_hasWeirAt, .instanceMethod yX2_hasWeirAt, .selects RX2 yX2_hasWeirAt yX2_hasWeirAt, .code yX2_hasWeirAt cX2_hasWeirAt 3 (some .boolean), .fieldLink RX2 19 "CoracleRace$River" "weirs" "I", .fieldLink RX2 13 "CoracleRace$River" "places" "[I", .methodLink RX3 64 yX2_addWeir, .instanceMethod yX2_addWeir, .selects RX2 yX2_addWeir yX2_addWeir, .code yX2_addWeir cX2_addWeir 3 none, .fieldLink RX2 16 "CoracleRace$River" "gaps" "[I"] ++ wsX30 ++ wsX20 ++ (vx_atS RX3 41 "java/lang/IllegalArgumentException" ["java/lang/RuntimeException", "java/lang/Exception"]).filter goodWord ++ (vx_atS RX3 58 "java/lang/IllegalStateException" ["java/lang/RuntimeException", "java/lang/Exception"]).filter goodWord)
def wsX3_launch_r1 : List Cond := [Cond.classLink RX3 37 "java/lang/IllegalArgumentException", Cond.initialized "java/lang/IllegalArgumentException", Cond.classLink RX3 54 "java/lang/IllegalStateException", Cond.initialized "java/lang/IllegalStateException", Cond.fieldLink RX3 19 "CoracleRace" "fleet" "LCoracleRace$Fleet;", Cond.fieldLink RX3 74 "CoracleRace$Fleet" "size" "I", Cond.methodLink RX3 26 yX2_isLane, Cond.static yX2_isLane, Cond.initialized RX2, Cond.code yX2_isLane cX2_isLane 1 (some .boolean), Cond.methodLink RX3 79 yX1_add, Cond.instanceMethod yX1_add, Cond.selects RX1 yX1_add yX1_add, Cond.initialized RX1, Cond.code yX1_add cX1_add 3 (some .int), Cond.fieldLink RX1 15 "CoracleRace$Fleet" "size" "I", Cond.fieldLink RX1 11 "CoracleRace$Fleet" "boats" "[LCoracleRace$Boat;", Cond.methodLink RX1 23 yX0_start, Cond.instanceMethod yX0_start, Cond.selects RX0 yX0_start yX0_start, Cond.initialized RX0, Cond.code yX0_start cX0_start 3 none, Cond.fieldLink RX0 23 "CoracleRace$Boat" "lane" "I", Cond.fieldLink RX0 17 "CoracleRace$Boat" "strength" "I"]
def wsX3_launch_r2 : List Cond := [Cond.methodLink RX0 48 yX0_takePattern, Cond.instanceMethod yX0_takePattern, Cond.selects RX0 yX0_takePattern yX0_takePattern, Cond.code yX0_takePattern cX0_takePattern 5 none, Cond.fieldLink RX0 9 "CoracleRace$Boat" "strokes" "[I", Cond.fieldLink RX0 13 "CoracleRace$Boat" "length" "I"]
def wsX3_launch : List Cond := .code yX3_launch cX3_launch 3 (some .int) :: ((wsX3_launch_r1 ++ wsX3_launch_r2) ++ wsX30 ++ wsX10 ++ wsX00 ++ (vx_atS RX3 41 "java/lang/IllegalArgumentException" ["java/lang/RuntimeException", "java/lang/Exception"]).filter goodWord ++ (vx_atS RX3 58 "java/lang/IllegalStateException" ["java/lang/RuntimeException", "java/lang/Exception"]).filter goodWord)
def wsX3_isPattern : List Cond := .code yX3_isPattern cX3_isPattern 4 (some .boolean) :: ([])
def wsX3_paddle : List Cond := .code yX3_paddle cX3_paddle 5 (some .int) :: ([.classLink RX3 30 "java/lang/IndexOutOfBoundsException", .initialized "java/lang/IndexOutOfBoundsException", .classLink RX3 37 "java/lang/IllegalArgumentException", .initialized "java/lang/IllegalArgumentException", .fieldLink RX3 19 "CoracleRace" "fleet" "LCoracleRace$Fleet;", .fieldLink RX3 96 "CoracleRace$Fleet" "boats" "[LCoracleRace$Boat;", .fieldLink RX3 100 "CoracleRace$Boat" "length" "I", .methodLink RX3 83 yX1_has, .instanceMethod yX1_has, .selects RX1 yX1_has yX1_has, .initialized RX1, .code yX1_has cX1_has 2 (some .boolean), .fieldLink RX1 15 "CoracleRace$Fleet" "size" "I", .methodLink RX3 90 yX3_isPattern, .static yX3_isPattern, .initialized RX3, .code yX3_isPattern cX3_isPattern 4 (some .boolean), .methodLink RX3 103 yX0_takePattern, .instanceMethod yX0_takePattern, .selects RX0 yX0_takePattern yX0_takePattern, .initialized RX0, .code yX0_takePattern cX0_takePattern 5 none, .fieldLink RX0 9 "CoracleRace$Boat" "strokes" "[I", .fieldLink RX0 13 "CoracleRace$Boat" "length" "I"] ++ wsX30 ++ wsX10 ++ wsX00 ++ (vx_atS RX3 34 "java/lang/IndexOutOfBoundsException" ["java/lang/RuntimeException", "java/lang/Exception"]).filter goodWord ++ (vx_atS RX3 41 "java/lang/IllegalArgumentException" ["java/lang/RuntimeException", "java/lang/Exception"]).filter goodWord)
def wsX3_tar : List Cond := .code yX3_tar cX3_tar 2 (some .int) :: ([.classLink RX3 30 "java/lang/IndexOutOfBoundsException", .initialized "java/lang/IndexOutOfBoundsException", .classLink RX3 54 "java/lang/IllegalStateException", .initialized "java/lang/IllegalStateException", .fieldLink RX3 19 "CoracleRace" "fleet" "LCoracleRace$Fleet;", .fieldLink RX3 96 "CoracleRace$Fleet" "boats" "[LCoracleRace$Boat;", .methodLink RX3 83 yX1_has, .instanceMethod yX1_has, .selects RX1 yX1_has yX1_has, .initialized RX1, .code yX1_has cX1_has 2 (some .boolean), .fieldLink RX1 15 "CoracleRace$Fleet" "size" "I", .methodLink RX3 106 yX0_isIn, .instanceMethod yX0_isIn, .selects RX0 yX0_isIn yX0_isIn, .initialized RX0, .code yX0_isIn cX0_isIn 1 (some .boolean), .fieldLink RX0 35 "CoracleRace$Boat" "in" "Z", .methodLink RX3 112 yX0_dryOut, .instanceMethod yX0_dryOut, .selects RX0 yX0_dryOut yX0_dryOut, .code yX0_dryOut cX0_dryOut 2 (some .int), .fieldLink RX0 29 "CoracleRace$Boat" "soaked" "I", .fieldLink RX0 32 "CoracleRace$Boat" "fouls" "I"] ++ wsX30 ++ wsX10 ++ wsX00 ++ (vx_atS RX3 34 "java/lang/IndexOutOfBoundsException" ["java/lang/RuntimeException", "java/lang/Exception"]).filter goodWord ++ (vx_atS RX3 58 "java/lang/IllegalStateException" ["java/lang/RuntimeException", "java/lang/Exception"]).filter goodWord)
def wsX3_boat_r1 : List Cond := [Cond.classLink RX3 30 "java/lang/IndexOutOfBoundsException", Cond.initialized "java/lang/IndexOutOfBoundsException", Cond.fieldLink RX3 19 "CoracleRace" "fleet" "LCoracleRace$Fleet;", Cond.fieldLink RX3 96 "CoracleRace$Fleet" "boats" "[LCoracleRace$Boat;", Cond.methodLink RX3 83 yX1_has, Cond.instanceMethod yX1_has, Cond.selects RX1 yX1_has yX1_has, Cond.initialized RX1, Cond.code yX1_has cX1_has 2 (some .boolean), Cond.fieldLink RX1 15 "CoracleRace$Fleet" "size" "I", Cond.methodLink RX3 118 yX0_fact, Cond.instanceMethod yX0_fact, Cond.selects RX0 yX0_fact yX0_fact, Cond.initialized RX0, Cond.code yX0_fact cX0_fact 2 (some .int), Cond.fieldLink RX0 20 "CoracleRace$Boat" "place" "I", Cond.fieldLink RX0 23 "CoracleRace$Boat" "lane" "I", Cond.fieldLink RX0 26 "CoracleRace$Boat" "heading" "I", Cond.fieldLink RX0 29 "CoracleRace$Boat" "soaked" "I", Cond.fieldLink RX0 32 "CoracleRace$Boat" "fouls" "I", Cond.fieldLink RX0 35 "CoracleRace$Boat" "in" "Z", Cond.fieldLink RX0 42 "CoracleRace$Boat" "spins" "I", Cond.fieldLink RX0 45 "CoracleRace$Boat" "stops" "I", Cond.methodLink RX0 58 yX0_time]
def wsX3_boat_r2 : List Cond := [Cond.instanceMethod yX0_time, Cond.selects RX0 yX0_time yX0_time, Cond.code yX0_time cX0_time 1 (some .int), Cond.fieldLink RX0 39 "CoracleRace$Boat" "tickIn" "I"]
def wsX3_boat : List Cond := .code yX3_boat cX3_boat 3 (some .int) :: ((wsX3_boat_r1 ++ wsX3_boat_r2) ++ wsX30 ++ wsX10 ++ wsX00 ++ (vx_atS RX3 34 "java/lang/IndexOutOfBoundsException" ["java/lang/RuntimeException", "java/lang/Exception"]).filter goodWord)
def wsX3_countIn_r1 : List Cond := [Cond.fieldLink RX3 150 "CoracleRace$Fleet" "tick" "I", Cond.fieldLink RX3 74 "CoracleRace$Fleet" "size" "I", Cond.fieldLink RX3 10 "CoracleRace" "river" "LCoracleRace$River;", Cond.fieldLink RX3 50 "CoracleRace$River" "weirs" "I", Cond.methodLink RX3 139 yX1_boatsIn, Cond.instanceMethod yX1_boatsIn, Cond.selects RX1 yX1_boatsIn yX1_boatsIn, Cond.initialized RX1, Cond.code yX1_boatsIn cX1_boatsIn 3 (some .int), Cond.fieldLink RX1 15 "CoracleRace$Fleet" "size" "I", Cond.fieldLink RX1 11 "CoracleRace$Fleet" "boats" "[LCoracleRace$Boat;", Cond.methodLink RX1 35 yX0_isIn, Cond.instanceMethod yX0_isIn, Cond.selects RX0 yX0_isIn yX0_isIn, Cond.initialized RX0, Cond.code yX0_isIn cX0_isIn 1 (some .boolean), Cond.fieldLink RX0 35 "CoracleRace$Boat" "in" "Z", Cond.methodLink RX3 187 yX1_foulsAdded, Cond.instanceMethod yX1_foulsAdded, Cond.selects RX1 yX1_foulsAdded yX1_foulsAdded, Cond.code yX1_foulsAdded cX1_foulsAdded 3 (some .int), Cond.fieldLink RX1 39 "CoracleRace$Boat" "fouls" "I", Cond.methodLink RX3 190 yX1_leader, Cond.instanceMethod yX1_leader]
def wsX3_countIn_r2 : List Cond := [Cond.selects RX1 yX1_leader yX1_leader, Cond.code yX1_leader cX1_leader 4 (some .int), Cond.fieldLink RX1 42 "CoracleRace$Boat" "place" "I", Cond.methodLink RX3 193 yX1_winner, Cond.instanceMethod yX1_winner, Cond.selects RX1 yX1_winner yX1_winner, Cond.code yX1_winner cX1_winner 4 (some .int), Cond.methodLink RX1 45 yX0_time, Cond.instanceMethod yX0_time, Cond.selects RX0 yX0_time yX0_time, Cond.code yX0_time cX0_time 1 (some .int), Cond.fieldLink RX0 39 "CoracleRace$Boat" "tickIn" "I", Cond.fieldLink RX0 32 "CoracleRace$Boat" "fouls" "I"]
def wsX3_countIn : List Cond := .code yX3_countIn cX3_countIn 3 (some .int) :: ((wsX3_countIn_r1 ++ wsX3_countIn_r2) ++ wsX10 ++ wsX30 ++ wsX20 ++ wsX00)
def wsX3_count_r1 : List Cond := [Cond.classLink RX3 30 "java/lang/IndexOutOfBoundsException", Cond.initialized "java/lang/IndexOutOfBoundsException", Cond.fieldLink RX3 19 "CoracleRace" "fleet" "LCoracleRace$Fleet;", Cond.methodLink RX3 124 yX3_countIn, Cond.instanceMethod yX3_countIn, Cond.selects RX3 yX3_countIn yX3_countIn, Cond.initialized RX3, Cond.code yX3_countIn cX3_countIn 3 (some .int), Cond.fieldLink RX3 150 "CoracleRace$Fleet" "tick" "I", Cond.fieldLink RX3 74 "CoracleRace$Fleet" "size" "I", Cond.fieldLink RX3 10 "CoracleRace" "river" "LCoracleRace$River;", Cond.fieldLink RX3 50 "CoracleRace$River" "weirs" "I", Cond.methodLink RX3 139 yX1_boatsIn, Cond.instanceMethod yX1_boatsIn, Cond.selects RX1 yX1_boatsIn yX1_boatsIn, Cond.initialized RX1, Cond.code yX1_boatsIn cX1_boatsIn 3 (some .int), Cond.fieldLink RX1 15 "CoracleRace$Fleet" "size" "I", Cond.fieldLink RX1 11 "CoracleRace$Fleet" "boats" "[LCoracleRace$Boat;", Cond.methodLink RX1 35 yX0_isIn, Cond.instanceMethod yX0_isIn, Cond.selects RX0 yX0_isIn yX0_isIn, Cond.initialized RX0, Cond.code yX0_isIn cX0_isIn 1 (some .boolean)]
def wsX3_count_r2 : List Cond := [Cond.fieldLink RX0 35 "CoracleRace$Boat" "in" "Z", Cond.methodLink RX3 187 yX1_foulsAdded, Cond.instanceMethod yX1_foulsAdded, Cond.selects RX1 yX1_foulsAdded yX1_foulsAdded, Cond.code yX1_foulsAdded cX1_foulsAdded 3 (some .int), Cond.fieldLink RX1 39 "CoracleRace$Boat" "fouls" "I", Cond.methodLink RX3 190 yX1_leader, Cond.instanceMethod yX1_leader, Cond.selects RX1 yX1_leader yX1_leader, Cond.code yX1_leader cX1_leader 4 (some .int), Cond.fieldLink RX1 42 "CoracleRace$Boat" "place" "I", Cond.methodLink RX3 193 yX1_winner, Cond.instanceMethod yX1_winner, Cond.selects RX1 yX1_winner yX1_winner, Cond.code yX1_winner cX1_winner 4 (some .int), Cond.methodLink RX1 45 yX0_time, Cond.instanceMethod yX0_time, Cond.selects RX0 yX0_time yX0_time, Cond.code yX0_time cX0_time 1 (some .int), Cond.fieldLink RX0 39 "CoracleRace$Boat" "tickIn" "I", Cond.fieldLink RX0 32 "CoracleRace$Boat" "fouls" "I"]
def wsX3_count : List Cond := .code yX3_count cX3_count 2 (some .int) :: ((wsX3_count_r1 ++ wsX3_count_r2) ++ wsX30 ++ wsX10 ++ wsX20 ++ wsX00 ++ (vx_atS RX3 34 "java/lang/IndexOutOfBoundsException" ["java/lang/RuntimeException", "java/lang/Exception"]).filter goodWord)
def wsX3_next : List Cond := .code yX3_next cX3_next 2 (some .int) :: ([.classLink RX3 37 "java/lang/IllegalArgumentException", .initialized "java/lang/IllegalArgumentException", .fieldLink RX3 10 "CoracleRace" "river" "LCoracleRace$River;", .methodLink RX3 130 yX2_firstWeirBeyond, .instanceMethod yX2_firstWeirBeyond, .selects RX2 yX2_firstWeirBeyond yX2_firstWeirBeyond, .initialized RX2, .code yX2_firstWeirBeyond cX2_firstWeirBeyond 4 (some .int), .fieldLink RX2 19 "CoracleRace$River" "weirs" "I", .fieldLink RX2 13 "CoracleRace$River" "places" "[I"] ++ wsX30 ++ wsX20 ++ (vx_atS RX3 41 "java/lang/IllegalArgumentException" ["java/lang/RuntimeException", "java/lang/Exception"]).filter goodWord)
def wsX3_rank_r1 : List Cond := [Cond.classLink RX3 30 "java/lang/IndexOutOfBoundsException", Cond.initialized "java/lang/IndexOutOfBoundsException", Cond.fieldLink RX3 19 "CoracleRace" "fleet" "LCoracleRace$Fleet;", Cond.fieldLink RX3 96 "CoracleRace$Fleet" "boats" "[LCoracleRace$Boat;", Cond.methodLink RX3 83 yX1_has, Cond.instanceMethod yX1_has, Cond.selects RX1 yX1_has yX1_has, Cond.initialized RX1, Cond.code yX1_has cX1_has 2 (some .boolean), Cond.fieldLink RX1 15 "CoracleRace$Fleet" "size" "I", Cond.methodLink RX3 133 yX1_rankOf, Cond.instanceMethod yX1_rankOf, Cond.selects RX1 yX1_rankOf yX1_rankOf, Cond.code yX1_rankOf cX1_rankOf 4 (some .int), Cond.fieldLink RX1 11 "CoracleRace$Fleet" "boats" "[LCoracleRace$Boat;", Cond.methodLink RX1 49 yX0_isAheadOf, Cond.instanceMethod yX0_isAheadOf, Cond.selects RX0 yX0_isAheadOf yX0_isAheadOf, Cond.initialized RX0, Cond.code yX0_isAheadOf cX0_isAheadOf 2 (some .boolean), Cond.fieldLink RX0 35 "CoracleRace$Boat" "in" "Z", Cond.fieldLink RX0 20 "CoracleRace$Boat" "place" "I", Cond.methodLink RX0 58 yX0_time, Cond.instanceMethod yX0_time]
def wsX3_rank_r2 : List Cond := [Cond.selects RX0 yX0_time yX0_time, Cond.code yX0_time cX0_time 1 (some .int), Cond.fieldLink RX0 39 "CoracleRace$Boat" "tickIn" "I", Cond.fieldLink RX0 32 "CoracleRace$Boat" "fouls" "I"]
def wsX3_rank : List Cond := .code yX3_rank cX3_rank 2 (some .int) :: ((wsX3_rank_r1 ++ wsX3_rank_r2) ++ wsX30 ++ wsX10 ++ wsX00 ++ (vx_atS RX3 34 "java/lang/IndexOutOfBoundsException" ["java/lang/RuntimeException", "java/lang/Exception"]).filter goodWord)
def wsX3_go_r1 : List Cond := [Cond.classLink RX3 37 "java/lang/IllegalArgumentException", Cond.initialized "java/lang/IllegalArgumentException", Cond.fieldLink RX3 19 "CoracleRace" "fleet" "LCoracleRace$Fleet;", Cond.fieldLink RX3 10 "CoracleRace" "river" "LCoracleRace$River;", Cond.methodLink RX3 139 yX1_boatsIn, Cond.instanceMethod yX1_boatsIn, Cond.selects RX1 yX1_boatsIn yX1_boatsIn, Cond.initialized RX1, Cond.code yX1_boatsIn cX1_boatsIn 3 (some .int), Cond.fieldLink RX1 15 "CoracleRace$Fleet" "size" "I", Cond.fieldLink RX1 11 "CoracleRace$Fleet" "boats" "[LCoracleRace$Boat;", Cond.methodLink RX1 35 yX0_isIn, Cond.instanceMethod yX0_isIn, Cond.selects RX0 yX0_isIn yX0_isIn, Cond.initialized RX0, Cond.code yX0_isIn cX0_isIn 1 (some .boolean), Cond.fieldLink RX0 35 "CoracleRace$Boat" "in" "Z", Cond.methodLink RX3 142 yX1_letTicksGoBy, Cond.instanceMethod yX1_letTicksGoBy, Cond.selects RX1 yX1_letTicksGoBy yX1_letTicksGoBy, Cond.code yX1_letTicksGoBy cX1_letTicksGoBy 5 none, Cond.fieldLink RX1 19 "CoracleRace$Fleet" "tick" "I", Cond.methodLink RX1 31 yX0_letTickGoBy, Cond.instanceMethod yX0_letTickGoBy]
def wsX3_go_r2 : List Cond := [Cond.selects RX0 yX0_letTickGoBy yX0_letTickGoBy, Cond.code yX0_letTickGoBy cX0_letTickGoBy 4 none, Cond.fieldLink RX0 20 "CoracleRace$Boat" "place" "I", Cond.fieldLink RX0 39 "CoracleRace$Boat" "tickIn" "I", Cond.methodLink RX0 62 yX0_strokeIn, Cond.instanceMethod yX0_strokeIn, Cond.selects RX0 yX0_strokeIn yX0_strokeIn, Cond.code yX0_strokeIn cX0_strokeIn 2 (some .int), Cond.fieldLink RX0 13 "CoracleRace$Boat" "length" "I", Cond.fieldLink RX0 9 "CoracleRace$Boat" "strokes" "[I", Cond.methodLink RX0 82 yJ9_floorMod_7cf53, Cond.static yJ9_floorMod_7cf53, Cond.initialized RJ9, Cond.code yJ9_floorMod_7cf53 cJ9_floorMod_7cf53 3 (some .int), Cond.methodLink RX0 66 yX0_forceOf, Cond.instanceMethod yX0_forceOf, Cond.selects RX0 yX0_forceOf yX0_forceOf, Cond.code yX0_forceOf cX0_forceOf 2 (some .int), Cond.fieldLink RX0 26 "CoracleRace$Boat" "heading" "I", Cond.fieldLink RX0 42 "CoracleRace$Boat" "spins" "I", Cond.fieldLink RX0 29 "CoracleRace$Boat" "soaked" "I", Cond.methodLink RX0 91 Lib.Math.max.name, Cond.static Lib.Math.max.name, Cond.initialized "java/lang/Math"]
def wsX3_go_r3 : List Cond := [Cond.code Lib.Math.max.name Lib.Math.max.code 2 (some .int), Cond.methodLink RX0 88 yX0_pushOf, Cond.instanceMethod yX0_pushOf, Cond.selects RX0 yX0_pushOf yX0_pushOf, Cond.code yX0_pushOf cX0_pushOf 2 (some .int), Cond.fieldLink RX0 17 "CoracleRace$Boat" "strength" "I", Cond.methodLink RX0 69 yX0_drift, Cond.instanceMethod yX0_drift, Cond.selects RX0 yX0_drift yX0_drift, Cond.code yX0_drift cX0_drift 2 none, Cond.fieldLink RX0 23 "CoracleRace$Boat" "lane" "I", Cond.fieldLink RX0 32 "CoracleRace$Boat" "fouls" "I", Cond.methodLink RX0 94 yX2_isLane, Cond.static yX2_isLane, Cond.initialized RX2, Cond.code yX2_isLane cX2_isLane 1 (some .boolean), Cond.methodLink RX0 72 yX0_advance, Cond.instanceMethod yX0_advance, Cond.selects RX0 yX0_advance yX0_advance, Cond.code yX0_advance cX0_advance 5 none, Cond.methodLink RX0 98 Lib.Math.abs.name, Cond.static Lib.Math.abs.name, Cond.code Lib.Math.abs.name Lib.Math.abs.code 1 (some .int), Cond.fieldLink RX0 101 "CoracleRace$River" "water" "[I"]
def wsX3_go_r4 : List Cond := [Cond.methodLink RX0 108 Lib.Math.min.name, Cond.static Lib.Math.min.name, Cond.code Lib.Math.min.name Lib.Math.min.code 2 (some .int), Cond.fieldLink RX0 45 "CoracleRace$Boat" "stops" "I", Cond.methodLink RX0 104 yX2_firstStop, Cond.instanceMethod yX2_firstStop, Cond.selects RX2 yX2_firstStop yX2_firstStop, Cond.code yX2_firstStop cX2_firstStop 7 (some .int), Cond.fieldLink RX2 19 "CoracleRace$River" "weirs" "I", Cond.fieldLink RX2 13 "CoracleRace$River" "places" "[I", Cond.fieldLink RX2 16 "CoracleRace$River" "gaps" "[I", Cond.methodLink RX0 76 yX0_soak, Cond.instanceMethod yX0_soak, Cond.selects RX0 yX0_soak yX0_soak, Cond.code yX0_soak cX0_soak 2 none]
def wsX3_go : List Cond := .code yX3_go cX3_go 3 (some .int) :: ((wsX3_go_r1 ++ (wsX3_go_r2 ++ (wsX3_go_r3 ++ wsX3_go_r4))) ++ wsX30 ++ wsX10 ++ wsX00 ++ wsX20 ++ (vx_atS RX3 41 "java/lang/IllegalArgumentException" ["java/lang/RuntimeException", "java/lang/Exception"]).filter goodWord)
def wsX3_arrives_r1 : List Cond := [Cond.classLink RX3 30 "java/lang/IndexOutOfBoundsException", Cond.initialized "java/lang/IndexOutOfBoundsException", Cond.fieldLink RX3 19 "CoracleRace" "fleet" "LCoracleRace$Fleet;", Cond.fieldLink RX3 23 "CoracleRace" "trial" "LCoracleRace$Fleet;", Cond.fieldLink RX3 96 "CoracleRace$Fleet" "boats" "[LCoracleRace$Boat;", Cond.fieldLink RX3 10 "CoracleRace" "river" "LCoracleRace$River;", Cond.fieldLink RX3 150 "CoracleRace$Fleet" "tick" "I", Cond.methodLink RX3 83 yX1_has, Cond.instanceMethod yX1_has, Cond.selects RX1 yX1_has yX1_has, Cond.initialized RX1, Cond.code yX1_has cX1_has 2 (some .boolean), Cond.fieldLink RX1 15 "CoracleRace$Fleet" "size" "I", Cond.methodLink RX3 146 yX0_copyFrom, Cond.instanceMethod yX0_copyFrom, Cond.selects RX0 yX0_copyFrom yX0_copyFrom, Cond.initialized RX0, Cond.code yX0_copyFrom cX0_copyFrom 2 none, Cond.fieldLink RX0 9 "CoracleRace$Boat" "strokes" "[I", Cond.methodLink RX0 52 arraycopyName, Cond.native arraycopyName, Cond.static arraycopyName, Cond.initialized "java/lang/System", Cond.fieldLink RX0 13 "CoracleRace$Boat" "length" "I"]
def wsX3_arrives_r2 : List Cond := [Cond.fieldLink RX0 17 "CoracleRace$Boat" "strength" "I", Cond.fieldLink RX0 20 "CoracleRace$Boat" "place" "I", Cond.fieldLink RX0 23 "CoracleRace$Boat" "lane" "I", Cond.fieldLink RX0 26 "CoracleRace$Boat" "heading" "I", Cond.fieldLink RX0 29 "CoracleRace$Boat" "soaked" "I", Cond.fieldLink RX0 32 "CoracleRace$Boat" "fouls" "I", Cond.fieldLink RX0 35 "CoracleRace$Boat" "in" "Z", Cond.fieldLink RX0 39 "CoracleRace$Boat" "tickIn" "I", Cond.fieldLink RX0 42 "CoracleRace$Boat" "spins" "I", Cond.fieldLink RX0 45 "CoracleRace$Boat" "stops" "I", Cond.methodLink RX3 106 yX0_isIn, Cond.instanceMethod yX0_isIn, Cond.selects RX0 yX0_isIn yX0_isIn, Cond.code yX0_isIn cX0_isIn 1 (some .boolean), Cond.methodLink RX3 153 yX0_letTickGoBy, Cond.instanceMethod yX0_letTickGoBy, Cond.selects RX0 yX0_letTickGoBy yX0_letTickGoBy, Cond.code yX0_letTickGoBy cX0_letTickGoBy 4 none, Cond.methodLink RX0 62 yX0_strokeIn, Cond.instanceMethod yX0_strokeIn, Cond.selects RX0 yX0_strokeIn yX0_strokeIn, Cond.code yX0_strokeIn cX0_strokeIn 2 (some .int), Cond.methodLink RX0 82 yJ9_floorMod_7cf53, Cond.static yJ9_floorMod_7cf53]
def wsX3_arrives_r3 : List Cond := [Cond.initialized RJ9, Cond.code yJ9_floorMod_7cf53 cJ9_floorMod_7cf53 3 (some .int), Cond.methodLink RX0 66 yX0_forceOf, Cond.instanceMethod yX0_forceOf, Cond.selects RX0 yX0_forceOf yX0_forceOf, Cond.code yX0_forceOf cX0_forceOf 2 (some .int), Cond.methodLink RX0 91 Lib.Math.max.name, Cond.static Lib.Math.max.name, Cond.initialized "java/lang/Math", Cond.code Lib.Math.max.name Lib.Math.max.code 2 (some .int), Cond.methodLink RX0 88 yX0_pushOf, Cond.instanceMethod yX0_pushOf, Cond.selects RX0 yX0_pushOf yX0_pushOf, Cond.code yX0_pushOf cX0_pushOf 2 (some .int), Cond.methodLink RX0 69 yX0_drift, Cond.instanceMethod yX0_drift, Cond.selects RX0 yX0_drift yX0_drift, Cond.code yX0_drift cX0_drift 2 none, Cond.methodLink RX0 94 yX2_isLane, Cond.static yX2_isLane, Cond.initialized RX2, Cond.code yX2_isLane cX2_isLane 1 (some .boolean), Cond.methodLink RX0 72 yX0_advance, Cond.instanceMethod yX0_advance]
def wsX3_arrives_r4 : List Cond := [Cond.selects RX0 yX0_advance yX0_advance, Cond.code yX0_advance cX0_advance 5 none, Cond.methodLink RX0 98 Lib.Math.abs.name, Cond.static Lib.Math.abs.name, Cond.code Lib.Math.abs.name Lib.Math.abs.code 1 (some .int), Cond.fieldLink RX0 101 "CoracleRace$River" "water" "[I", Cond.methodLink RX0 108 Lib.Math.min.name, Cond.static Lib.Math.min.name, Cond.code Lib.Math.min.name Lib.Math.min.code 2 (some .int), Cond.methodLink RX0 104 yX2_firstStop, Cond.instanceMethod yX2_firstStop, Cond.selects RX2 yX2_firstStop yX2_firstStop, Cond.code yX2_firstStop cX2_firstStop 7 (some .int), Cond.fieldLink RX2 19 "CoracleRace$River" "weirs" "I", Cond.fieldLink RX2 13 "CoracleRace$River" "places" "[I", Cond.fieldLink RX2 16 "CoracleRace$River" "gaps" "[I", Cond.methodLink RX0 76 yX0_soak, Cond.instanceMethod yX0_soak, Cond.selects RX0 yX0_soak yX0_soak, Cond.code yX0_soak cX0_soak 2 none]
def wsX3_arrives : List Cond := .code yX3_arrives cX3_arrives 4 (some .int) :: ((wsX3_arrives_r1 ++ (wsX3_arrives_r2 ++ (wsX3_arrives_r3 ++ wsX3_arrives_r4))) ++ wsX30 ++ wsX10 ++ wsX00 ++ wsX20 ++ (vx_atS RX3 34 "java/lang/IndexOutOfBoundsException" ["java/lang/RuntimeException", "java/lang/Exception"]).filter goodWord)
def wsX3_foresee_r1 : List Cond := [Cond.classLink RX3 37 "java/lang/IllegalArgumentException", Cond.initialized "java/lang/IllegalArgumentException", Cond.classLink RX3 30 "java/lang/IndexOutOfBoundsException", Cond.initialized "java/lang/IndexOutOfBoundsException", Cond.fieldLink RX3 23 "CoracleRace" "trial" "LCoracleRace$Fleet;", Cond.fieldLink RX3 19 "CoracleRace" "fleet" "LCoracleRace$Fleet;", Cond.fieldLink RX3 10 "CoracleRace" "river" "LCoracleRace$River;", Cond.methodLink RX3 158 yX1_copyFrom, Cond.instanceMethod yX1_copyFrom, Cond.selects RX1 yX1_copyFrom yX1_copyFrom, Cond.initialized RX1, Cond.code yX1_copyFrom cX1_copyFrom 3 none, Cond.fieldLink RX1 15 "CoracleRace$Fleet" "size" "I", Cond.fieldLink RX1 19 "CoracleRace$Fleet" "tick" "I", Cond.fieldLink RX1 11 "CoracleRace$Fleet" "boats" "[LCoracleRace$Boat;", Cond.methodLink RX1 27 yX0_copyFrom, Cond.instanceMethod yX0_copyFrom, Cond.selects RX0 yX0_copyFrom yX0_copyFrom, Cond.initialized RX0, Cond.code yX0_copyFrom cX0_copyFrom 2 none, Cond.fieldLink RX0 9 "CoracleRace$Boat" "strokes" "[I", Cond.methodLink RX0 52 arraycopyName, Cond.native arraycopyName, Cond.static arraycopyName]
def wsX3_foresee_r2 : List Cond := [Cond.initialized "java/lang/System", Cond.fieldLink RX0 13 "CoracleRace$Boat" "length" "I", Cond.fieldLink RX0 17 "CoracleRace$Boat" "strength" "I", Cond.fieldLink RX0 20 "CoracleRace$Boat" "place" "I", Cond.fieldLink RX0 23 "CoracleRace$Boat" "lane" "I", Cond.fieldLink RX0 26 "CoracleRace$Boat" "heading" "I", Cond.fieldLink RX0 29 "CoracleRace$Boat" "soaked" "I", Cond.fieldLink RX0 32 "CoracleRace$Boat" "fouls" "I", Cond.fieldLink RX0 35 "CoracleRace$Boat" "in" "Z", Cond.fieldLink RX0 39 "CoracleRace$Boat" "tickIn" "I", Cond.fieldLink RX0 42 "CoracleRace$Boat" "spins" "I", Cond.fieldLink RX0 45 "CoracleRace$Boat" "stops" "I", Cond.methodLink RX3 142 yX1_letTicksGoBy, Cond.instanceMethod yX1_letTicksGoBy, Cond.selects RX1 yX1_letTicksGoBy yX1_letTicksGoBy, Cond.code yX1_letTicksGoBy cX1_letTicksGoBy 5 none, Cond.methodLink RX1 31 yX0_letTickGoBy, Cond.instanceMethod yX0_letTickGoBy, Cond.selects RX0 yX0_letTickGoBy yX0_letTickGoBy, Cond.code yX0_letTickGoBy cX0_letTickGoBy 4 none, Cond.methodLink RX0 62 yX0_strokeIn, Cond.instanceMethod yX0_strokeIn, Cond.selects RX0 yX0_strokeIn yX0_strokeIn, Cond.code yX0_strokeIn cX0_strokeIn 2 (some .int)]
def wsX3_foresee_r3 : List Cond := [Cond.methodLink RX0 82 yJ9_floorMod_7cf53, Cond.static yJ9_floorMod_7cf53, Cond.initialized RJ9, Cond.code yJ9_floorMod_7cf53 cJ9_floorMod_7cf53 3 (some .int), Cond.methodLink RX0 66 yX0_forceOf, Cond.instanceMethod yX0_forceOf, Cond.selects RX0 yX0_forceOf yX0_forceOf, Cond.code yX0_forceOf cX0_forceOf 2 (some .int), Cond.methodLink RX0 91 Lib.Math.max.name, Cond.static Lib.Math.max.name, Cond.initialized "java/lang/Math", Cond.code Lib.Math.max.name Lib.Math.max.code 2 (some .int), Cond.methodLink RX0 88 yX0_pushOf, Cond.instanceMethod yX0_pushOf, Cond.selects RX0 yX0_pushOf yX0_pushOf, Cond.code yX0_pushOf cX0_pushOf 2 (some .int), Cond.methodLink RX0 69 yX0_drift, Cond.instanceMethod yX0_drift, Cond.selects RX0 yX0_drift yX0_drift, Cond.code yX0_drift cX0_drift 2 none, Cond.methodLink RX0 94 yX2_isLane, Cond.static yX2_isLane, Cond.initialized RX2, Cond.code yX2_isLane cX2_isLane 1 (some .boolean)]
def wsX3_foresee_r4 : List Cond := [Cond.methodLink RX0 72 yX0_advance, Cond.instanceMethod yX0_advance, Cond.selects RX0 yX0_advance yX0_advance, Cond.code yX0_advance cX0_advance 5 none, Cond.methodLink RX0 98 Lib.Math.abs.name, Cond.static Lib.Math.abs.name, Cond.code Lib.Math.abs.name Lib.Math.abs.code 1 (some .int), Cond.fieldLink RX0 101 "CoracleRace$River" "water" "[I", Cond.methodLink RX0 108 Lib.Math.min.name, Cond.static Lib.Math.min.name, Cond.code Lib.Math.min.name Lib.Math.min.code 2 (some .int), Cond.methodLink RX0 104 yX2_firstStop, Cond.instanceMethod yX2_firstStop, Cond.selects RX2 yX2_firstStop yX2_firstStop, Cond.code yX2_firstStop cX2_firstStop 7 (some .int), Cond.fieldLink RX2 19 "CoracleRace$River" "weirs" "I", Cond.fieldLink RX2 13 "CoracleRace$River" "places" "[I", Cond.fieldLink RX2 16 "CoracleRace$River" "gaps" "[I", Cond.methodLink RX0 76 yX0_soak, Cond.instanceMethod yX0_soak, Cond.selects RX0 yX0_soak yX0_soak, Cond.code yX0_soak cX0_soak 2 none, Cond.methodLink RX3 124 yX3_countIn, Cond.instanceMethod yX3_countIn]
def wsX3_foresee_r5 : List Cond := [Cond.selects RX3 yX3_countIn yX3_countIn, Cond.initialized RX3, Cond.code yX3_countIn cX3_countIn 3 (some .int), Cond.fieldLink RX3 150 "CoracleRace$Fleet" "tick" "I", Cond.fieldLink RX3 74 "CoracleRace$Fleet" "size" "I", Cond.fieldLink RX3 50 "CoracleRace$River" "weirs" "I", Cond.methodLink RX3 139 yX1_boatsIn, Cond.instanceMethod yX1_boatsIn, Cond.selects RX1 yX1_boatsIn yX1_boatsIn, Cond.code yX1_boatsIn cX1_boatsIn 3 (some .int), Cond.methodLink RX1 35 yX0_isIn, Cond.instanceMethod yX0_isIn, Cond.selects RX0 yX0_isIn yX0_isIn, Cond.code yX0_isIn cX0_isIn 1 (some .boolean), Cond.methodLink RX3 187 yX1_foulsAdded, Cond.instanceMethod yX1_foulsAdded, Cond.selects RX1 yX1_foulsAdded yX1_foulsAdded, Cond.code yX1_foulsAdded cX1_foulsAdded 3 (some .int), Cond.fieldLink RX1 39 "CoracleRace$Boat" "fouls" "I", Cond.methodLink RX3 190 yX1_leader, Cond.instanceMethod yX1_leader, Cond.selects RX1 yX1_leader yX1_leader, Cond.code yX1_leader cX1_leader 4 (some .int), Cond.fieldLink RX1 42 "CoracleRace$Boat" "place" "I"]
def wsX3_foresee_r6 : List Cond := [Cond.methodLink RX3 193 yX1_winner, Cond.instanceMethod yX1_winner, Cond.selects RX1 yX1_winner yX1_winner, Cond.code yX1_winner cX1_winner 4 (some .int), Cond.methodLink RX1 45 yX0_time, Cond.instanceMethod yX0_time, Cond.selects RX0 yX0_time yX0_time, Cond.code yX0_time cX0_time 1 (some .int)]
def wsX3_foresee : List Cond := .code yX3_foresee cX3_foresee 3 (some .int) :: ((wsX3_foresee_r1 ++ (wsX3_foresee_r2 ++ (wsX3_foresee_r3 ++ (wsX3_foresee_r4 ++ (wsX3_foresee_r5 ++ wsX3_foresee_r6))))) ++ wsX30 ++ wsX10 ++ wsX00 ++ wsX20 ++ (vx_atS RX3 41 "java/lang/IllegalArgumentException" ["java/lang/RuntimeException", "java/lang/Exception"]).filter goodWord ++ (vx_atS RX3 34 "java/lang/IndexOutOfBoundsException" ["java/lang/RuntimeException", "java/lang/Exception"]).filter goodWord)
def wsX3_placeWith_r1 : List Cond := [Cond.fieldLink RX3 23 "CoracleRace" "trial" "LCoracleRace$Fleet;", Cond.fieldLink RX3 96 "CoracleRace$Fleet" "boats" "[LCoracleRace$Boat;", Cond.fieldLink RX3 19 "CoracleRace" "fleet" "LCoracleRace$Fleet;", Cond.fieldLink RX3 10 "CoracleRace" "river" "LCoracleRace$River;", Cond.fieldLink RX3 150 "CoracleRace$Fleet" "tick" "I", Cond.fieldLink RX3 196 "CoracleRace$Boat" "place" "I", Cond.methodLink RX3 146 yX0_copyFrom, Cond.instanceMethod yX0_copyFrom, Cond.selects RX0 yX0_copyFrom yX0_copyFrom, Cond.initialized RX0, Cond.code yX0_copyFrom cX0_copyFrom 2 none, Cond.fieldLink RX0 9 "CoracleRace$Boat" "strokes" "[I", Cond.methodLink RX0 52 arraycopyName, Cond.native arraycopyName, Cond.static arraycopyName, Cond.initialized "java/lang/System", Cond.fieldLink RX0 13 "CoracleRace$Boat" "length" "I", Cond.fieldLink RX0 17 "CoracleRace$Boat" "strength" "I", Cond.fieldLink RX0 20 "CoracleRace$Boat" "place" "I", Cond.fieldLink RX0 23 "CoracleRace$Boat" "lane" "I", Cond.fieldLink RX0 26 "CoracleRace$Boat" "heading" "I", Cond.fieldLink RX0 29 "CoracleRace$Boat" "soaked" "I", Cond.fieldLink RX0 32 "CoracleRace$Boat" "fouls" "I", Cond.fieldLink RX0 35 "CoracleRace$Boat" "in" "Z"]
def wsX3_placeWith_r2 : List Cond := [Cond.fieldLink RX0 39 "CoracleRace$Boat" "tickIn" "I", Cond.fieldLink RX0 42 "CoracleRace$Boat" "spins" "I", Cond.fieldLink RX0 45 "CoracleRace$Boat" "stops" "I", Cond.methodLink RX3 103 yX0_takePattern, Cond.instanceMethod yX0_takePattern, Cond.selects RX0 yX0_takePattern yX0_takePattern, Cond.code yX0_takePattern cX0_takePattern 5 none, Cond.methodLink RX3 153 yX0_letTickGoBy, Cond.instanceMethod yX0_letTickGoBy, Cond.selects RX0 yX0_letTickGoBy yX0_letTickGoBy, Cond.code yX0_letTickGoBy cX0_letTickGoBy 4 none, Cond.methodLink RX0 62 yX0_strokeIn, Cond.instanceMethod yX0_strokeIn, Cond.selects RX0 yX0_strokeIn yX0_strokeIn, Cond.code yX0_strokeIn cX0_strokeIn 2 (some .int), Cond.methodLink RX0 82 yJ9_floorMod_7cf53, Cond.static yJ9_floorMod_7cf53, Cond.initialized RJ9, Cond.code yJ9_floorMod_7cf53 cJ9_floorMod_7cf53 3 (some .int), Cond.methodLink RX0 66 yX0_forceOf, Cond.instanceMethod yX0_forceOf, Cond.selects RX0 yX0_forceOf yX0_forceOf, Cond.code yX0_forceOf cX0_forceOf 2 (some .int), Cond.methodLink RX0 91 Lib.Math.max.name]
def wsX3_placeWith_r3 : List Cond := [Cond.static Lib.Math.max.name, Cond.initialized "java/lang/Math", Cond.code Lib.Math.max.name Lib.Math.max.code 2 (some .int), Cond.methodLink RX0 88 yX0_pushOf, Cond.instanceMethod yX0_pushOf, Cond.selects RX0 yX0_pushOf yX0_pushOf, Cond.code yX0_pushOf cX0_pushOf 2 (some .int), Cond.methodLink RX0 69 yX0_drift, Cond.instanceMethod yX0_drift, Cond.selects RX0 yX0_drift yX0_drift, Cond.code yX0_drift cX0_drift 2 none, Cond.methodLink RX0 94 yX2_isLane, Cond.static yX2_isLane, Cond.initialized RX2, Cond.code yX2_isLane cX2_isLane 1 (some .boolean), Cond.methodLink RX0 72 yX0_advance, Cond.instanceMethod yX0_advance, Cond.selects RX0 yX0_advance yX0_advance, Cond.code yX0_advance cX0_advance 5 none, Cond.methodLink RX0 98 Lib.Math.abs.name, Cond.static Lib.Math.abs.name, Cond.code Lib.Math.abs.name Lib.Math.abs.code 1 (some .int), Cond.fieldLink RX0 101 "CoracleRace$River" "water" "[I", Cond.methodLink RX0 108 Lib.Math.min.name]
def wsX3_placeWith_r4 : List Cond := [Cond.static Lib.Math.min.name, Cond.code Lib.Math.min.name Lib.Math.min.code 2 (some .int), Cond.methodLink RX0 104 yX2_firstStop, Cond.instanceMethod yX2_firstStop, Cond.selects RX2 yX2_firstStop yX2_firstStop, Cond.code yX2_firstStop cX2_firstStop 7 (some .int), Cond.fieldLink RX2 19 "CoracleRace$River" "weirs" "I", Cond.fieldLink RX2 13 "CoracleRace$River" "places" "[I", Cond.fieldLink RX2 16 "CoracleRace$River" "gaps" "[I", Cond.methodLink RX0 76 yX0_soak, Cond.instanceMethod yX0_soak, Cond.selects RX0 yX0_soak yX0_soak, Cond.code yX0_soak cX0_soak 2 none]
def wsX3_placeWith : List Cond := .code yX3_placeWith cX3_placeWith 6 (some .int) :: ((wsX3_placeWith_r1 ++ (wsX3_placeWith_r2 ++ (wsX3_placeWith_r3 ++ wsX3_placeWith_r4))) ++ wsX30 ++ wsX10 ++ wsX00 ++ wsX20)
def wsX3_advise_r1 : List Cond := [Cond.classLink RX3 30 "java/lang/IndexOutOfBoundsException", Cond.initialized "java/lang/IndexOutOfBoundsException", Cond.classLink RX3 37 "java/lang/IllegalArgumentException", Cond.initialized "java/lang/IllegalArgumentException", Cond.fieldLink RX3 19 "CoracleRace" "fleet" "LCoracleRace$Fleet;", Cond.methodLink RX3 83 yX1_has, Cond.instanceMethod yX1_has, Cond.selects RX1 yX1_has yX1_has, Cond.initialized RX1, Cond.code yX1_has cX1_has 2 (some .boolean), Cond.fieldLink RX1 15 "CoracleRace$Fleet" "size" "I", Cond.methodLink RX3 163 yX3_placeWith, Cond.instanceMethod yX3_placeWith, Cond.selects RX3 yX3_placeWith yX3_placeWith, Cond.initialized RX3, Cond.code yX3_placeWith cX3_placeWith 6 (some .int), Cond.fieldLink RX3 23 "CoracleRace" "trial" "LCoracleRace$Fleet;", Cond.fieldLink RX3 96 "CoracleRace$Fleet" "boats" "[LCoracleRace$Boat;", Cond.fieldLink RX3 10 "CoracleRace" "river" "LCoracleRace$River;", Cond.fieldLink RX3 150 "CoracleRace$Fleet" "tick" "I", Cond.fieldLink RX3 196 "CoracleRace$Boat" "place" "I", Cond.methodLink RX3 146 yX0_copyFrom, Cond.instanceMethod yX0_copyFrom, Cond.selects RX0 yX0_copyFrom yX0_copyFrom]
def wsX3_advise_r2 : List Cond := [Cond.initialized RX0, Cond.code yX0_copyFrom cX0_copyFrom 2 none, Cond.fieldLink RX0 9 "CoracleRace$Boat" "strokes" "[I", Cond.methodLink RX0 52 arraycopyName, Cond.native arraycopyName, Cond.static arraycopyName, Cond.initialized "java/lang/System", Cond.fieldLink RX0 13 "CoracleRace$Boat" "length" "I", Cond.fieldLink RX0 17 "CoracleRace$Boat" "strength" "I", Cond.fieldLink RX0 20 "CoracleRace$Boat" "place" "I", Cond.fieldLink RX0 23 "CoracleRace$Boat" "lane" "I", Cond.fieldLink RX0 26 "CoracleRace$Boat" "heading" "I", Cond.fieldLink RX0 29 "CoracleRace$Boat" "soaked" "I", Cond.fieldLink RX0 32 "CoracleRace$Boat" "fouls" "I", Cond.fieldLink RX0 35 "CoracleRace$Boat" "in" "Z", Cond.fieldLink RX0 39 "CoracleRace$Boat" "tickIn" "I", Cond.fieldLink RX0 42 "CoracleRace$Boat" "spins" "I", Cond.fieldLink RX0 45 "CoracleRace$Boat" "stops" "I", Cond.methodLink RX3 103 yX0_takePattern, Cond.instanceMethod yX0_takePattern, Cond.selects RX0 yX0_takePattern yX0_takePattern, Cond.code yX0_takePattern cX0_takePattern 5 none, Cond.methodLink RX3 153 yX0_letTickGoBy, Cond.instanceMethod yX0_letTickGoBy]
def wsX3_advise_r3 : List Cond := [Cond.selects RX0 yX0_letTickGoBy yX0_letTickGoBy, Cond.code yX0_letTickGoBy cX0_letTickGoBy 4 none, Cond.methodLink RX0 62 yX0_strokeIn, Cond.instanceMethod yX0_strokeIn, Cond.selects RX0 yX0_strokeIn yX0_strokeIn, Cond.code yX0_strokeIn cX0_strokeIn 2 (some .int), Cond.methodLink RX0 82 yJ9_floorMod_7cf53, Cond.static yJ9_floorMod_7cf53, Cond.initialized RJ9, Cond.code yJ9_floorMod_7cf53 cJ9_floorMod_7cf53 3 (some .int), Cond.methodLink RX0 66 yX0_forceOf, Cond.instanceMethod yX0_forceOf, Cond.selects RX0 yX0_forceOf yX0_forceOf, Cond.code yX0_forceOf cX0_forceOf 2 (some .int), Cond.methodLink RX0 91 Lib.Math.max.name, Cond.static Lib.Math.max.name, Cond.initialized "java/lang/Math", Cond.code Lib.Math.max.name Lib.Math.max.code 2 (some .int), Cond.methodLink RX0 88 yX0_pushOf, Cond.instanceMethod yX0_pushOf, Cond.selects RX0 yX0_pushOf yX0_pushOf, Cond.code yX0_pushOf cX0_pushOf 2 (some .int), Cond.methodLink RX0 69 yX0_drift, Cond.instanceMethod yX0_drift]
def wsX3_advise_r4 : List Cond := [Cond.selects RX0 yX0_drift yX0_drift, Cond.code yX0_drift cX0_drift 2 none, Cond.methodLink RX0 94 yX2_isLane, Cond.static yX2_isLane, Cond.initialized RX2, Cond.code yX2_isLane cX2_isLane 1 (some .boolean), Cond.methodLink RX0 72 yX0_advance, Cond.instanceMethod yX0_advance, Cond.selects RX0 yX0_advance yX0_advance, Cond.code yX0_advance cX0_advance 5 none, Cond.methodLink RX0 98 Lib.Math.abs.name, Cond.static Lib.Math.abs.name, Cond.code Lib.Math.abs.name Lib.Math.abs.code 1 (some .int), Cond.fieldLink RX0 101 "CoracleRace$River" "water" "[I", Cond.methodLink RX0 108 Lib.Math.min.name, Cond.static Lib.Math.min.name, Cond.code Lib.Math.min.name Lib.Math.min.code 2 (some .int), Cond.methodLink RX0 104 yX2_firstStop, Cond.instanceMethod yX2_firstStop, Cond.selects RX2 yX2_firstStop yX2_firstStop, Cond.code yX2_firstStop cX2_firstStop 7 (some .int), Cond.fieldLink RX2 19 "CoracleRace$River" "weirs" "I", Cond.fieldLink RX2 13 "CoracleRace$River" "places" "[I", Cond.fieldLink RX2 16 "CoracleRace$River" "gaps" "[I"]
def wsX3_advise_r5 : List Cond := [Cond.methodLink RX0 76 yX0_soak, Cond.instanceMethod yX0_soak, Cond.selects RX0 yX0_soak yX0_soak, Cond.code yX0_soak cX0_soak 2 none]
def wsX3_advise : List Cond := .code yX3_advise cX3_advise 9 (some .int) :: ((wsX3_advise_r1 ++ (wsX3_advise_r2 ++ (wsX3_advise_r3 ++ (wsX3_advise_r4 ++ wsX3_advise_r5)))) ++ wsX30 ++ wsX10 ++ wsX00 ++ wsX20 ++ (vx_atS RX3 34 "java/lang/IndexOutOfBoundsException" ["java/lang/RuntimeException", "java/lang/Exception"]).filter goodWord ++ (vx_atS RX3 41 "java/lang/IllegalArgumentException" ["java/lang/RuntimeException", "java/lang/Exception"]).filter goodWord)
def wsX3_mean : List Cond := .code yX3_mean cX3_mean 1 (some .double) :: ([.fieldLink RX3 19 "CoracleRace" "fleet" "LCoracleRace$Fleet;", .fieldLink RX3 74 "CoracleRace$Fleet" "size" "I", .methodLink RX3 167 yX1_placesAdded, .instanceMethod yX1_placesAdded, .selects RX1 yX1_placesAdded yX1_placesAdded, .initialized RX1, .code yX1_placesAdded cX1_placesAdded 3 (some .int), .fieldLink RX1 15 "CoracleRace$Fleet" "size" "I", .fieldLink RX1 11 "CoracleRace$Fleet" "boats" "[LCoracleRace$Boat;", .fieldLink RX1 42 "CoracleRace$Boat" "place" "I"] ++ wsX30 ++ wsX10 ++ wsX00)
def wsX3_digestWith_r1 : List Cond := [Cond.constantLong RX3 172 (31), Cond.fieldLink RX3 100 "CoracleRace$Boat" "length" "I", Cond.fieldLink RX3 184 "CoracleRace$Boat" "strokes" "[I", Cond.fieldLink RX3 19 "CoracleRace" "fleet" "LCoracleRace$Fleet;", Cond.methodLink RX3 118 yX0_fact, Cond.instanceMethod yX0_fact, Cond.selects RX0 yX0_fact yX0_fact, Cond.initialized RX0, Cond.code yX0_fact cX0_fact 2 (some .int), Cond.fieldLink RX0 20 "CoracleRace$Boat" "place" "I", Cond.fieldLink RX0 23 "CoracleRace$Boat" "lane" "I", Cond.fieldLink RX0 26 "CoracleRace$Boat" "heading" "I", Cond.fieldLink RX0 29 "CoracleRace$Boat" "soaked" "I", Cond.fieldLink RX0 32 "CoracleRace$Boat" "fouls" "I", Cond.fieldLink RX0 35 "CoracleRace$Boat" "in" "Z", Cond.fieldLink RX0 42 "CoracleRace$Boat" "spins" "I", Cond.fieldLink RX0 45 "CoracleRace$Boat" "stops" "I", Cond.methodLink RX0 58 yX0_time, Cond.instanceMethod yX0_time, Cond.selects RX0 yX0_time yX0_time, Cond.code yX0_time cX0_time 1 (some .int), Cond.fieldLink RX0 39 "CoracleRace$Boat" "tickIn" "I", Cond.methodLink RX3 133 yX1_rankOf, Cond.instanceMethod yX1_rankOf]
def wsX3_digestWith_r2 : List Cond := [Cond.selects RX1 yX1_rankOf yX1_rankOf, Cond.initialized RX1, Cond.code yX1_rankOf cX1_rankOf 4 (some .int), Cond.fieldLink RX1 15 "CoracleRace$Fleet" "size" "I", Cond.fieldLink RX1 11 "CoracleRace$Fleet" "boats" "[LCoracleRace$Boat;", Cond.methodLink RX1 49 yX0_isAheadOf, Cond.instanceMethod yX0_isAheadOf, Cond.selects RX0 yX0_isAheadOf yX0_isAheadOf, Cond.code yX0_isAheadOf cX0_isAheadOf 2 (some .boolean)]
def wsX3_digestWith : List Cond := .code yX3_digestWith cX3_digestWith 7 (some .long) :: ((wsX3_digestWith_r1 ++ wsX3_digestWith_r2) ++ wsX00 ++ wsX30 ++ wsX10)
def wsX3_digest_r1 : List Cond := [Cond.constantLong RX3 170 (1163), Cond.constantLong RX3 172 (31), Cond.fieldLink RX3 19 "CoracleRace" "fleet" "LCoracleRace$Fleet;", Cond.fieldLink RX3 10 "CoracleRace" "river" "LCoracleRace$River;", Cond.fieldLink RX3 42 "CoracleRace$River" "water" "[I", Cond.fieldLink RX3 50 "CoracleRace$River" "weirs" "I", Cond.fieldLink RX3 174 "CoracleRace$River" "places" "[I", Cond.fieldLink RX3 177 "CoracleRace$River" "gaps" "[I", Cond.fieldLink RX3 74 "CoracleRace$Fleet" "size" "I", Cond.fieldLink RX3 96 "CoracleRace$Fleet" "boats" "[LCoracleRace$Boat;", Cond.methodLink RX3 124 yX3_countIn, Cond.instanceMethod yX3_countIn, Cond.selects RX3 yX3_countIn yX3_countIn, Cond.initialized RX3, Cond.code yX3_countIn cX3_countIn 3 (some .int), Cond.fieldLink RX3 150 "CoracleRace$Fleet" "tick" "I", Cond.methodLink RX3 139 yX1_boatsIn, Cond.instanceMethod yX1_boatsIn, Cond.selects RX1 yX1_boatsIn yX1_boatsIn, Cond.initialized RX1, Cond.code yX1_boatsIn cX1_boatsIn 3 (some .int), Cond.fieldLink RX1 15 "CoracleRace$Fleet" "size" "I", Cond.fieldLink RX1 11 "CoracleRace$Fleet" "boats" "[LCoracleRace$Boat;", Cond.methodLink RX1 35 yX0_isIn]
def wsX3_digest_r2 : List Cond := [Cond.instanceMethod yX0_isIn, Cond.selects RX0 yX0_isIn yX0_isIn, Cond.initialized RX0, Cond.code yX0_isIn cX0_isIn 1 (some .boolean), Cond.fieldLink RX0 35 "CoracleRace$Boat" "in" "Z", Cond.methodLink RX3 187 yX1_foulsAdded, Cond.instanceMethod yX1_foulsAdded, Cond.selects RX1 yX1_foulsAdded yX1_foulsAdded, Cond.code yX1_foulsAdded cX1_foulsAdded 3 (some .int), Cond.fieldLink RX1 39 "CoracleRace$Boat" "fouls" "I", Cond.methodLink RX3 190 yX1_leader, Cond.instanceMethod yX1_leader, Cond.selects RX1 yX1_leader yX1_leader, Cond.code yX1_leader cX1_leader 4 (some .int), Cond.fieldLink RX1 42 "CoracleRace$Boat" "place" "I", Cond.methodLink RX3 193 yX1_winner, Cond.instanceMethod yX1_winner, Cond.selects RX1 yX1_winner yX1_winner, Cond.code yX1_winner cX1_winner 4 (some .int), Cond.methodLink RX1 45 yX0_time, Cond.instanceMethod yX0_time, Cond.selects RX0 yX0_time yX0_time, Cond.code yX0_time cX0_time 1 (some .int), Cond.fieldLink RX0 39 "CoracleRace$Boat" "tickIn" "I"]
def wsX3_digest_r3 : List Cond := [Cond.fieldLink RX0 32 "CoracleRace$Boat" "fouls" "I", Cond.methodLink RX3 180 yX3_digestWith, Cond.instanceMethod yX3_digestWith, Cond.selects RX3 yX3_digestWith yX3_digestWith, Cond.code yX3_digestWith cX3_digestWith 7 (some .long), Cond.fieldLink RX3 100 "CoracleRace$Boat" "length" "I", Cond.fieldLink RX3 184 "CoracleRace$Boat" "strokes" "[I", Cond.methodLink RX3 118 yX0_fact, Cond.instanceMethod yX0_fact, Cond.selects RX0 yX0_fact yX0_fact, Cond.code yX0_fact cX0_fact 2 (some .int), Cond.fieldLink RX0 20 "CoracleRace$Boat" "place" "I", Cond.fieldLink RX0 23 "CoracleRace$Boat" "lane" "I", Cond.fieldLink RX0 26 "CoracleRace$Boat" "heading" "I", Cond.fieldLink RX0 29 "CoracleRace$Boat" "soaked" "I", Cond.fieldLink RX0 42 "CoracleRace$Boat" "spins" "I", Cond.fieldLink RX0 45 "CoracleRace$Boat" "stops" "I", Cond.methodLink RX0 58 yX0_time, Cond.methodLink RX3 133 yX1_rankOf, Cond.instanceMethod yX1_rankOf, Cond.selects RX1 yX1_rankOf yX1_rankOf, Cond.code yX1_rankOf cX1_rankOf 4 (some .int), Cond.methodLink RX1 49 yX0_isAheadOf, Cond.instanceMethod yX0_isAheadOf]
def wsX3_digest_r4 : List Cond := [Cond.selects RX0 yX0_isAheadOf yX0_isAheadOf, Cond.code yX0_isAheadOf cX0_isAheadOf 2 (some .boolean)]
def wsX3_digest : List Cond := .code yX3_digest cX3_digest 4 (some .long) :: ((wsX3_digest_r1 ++ (wsX3_digest_r2 ++ (wsX3_digest_r3 ++ wsX3_digest_r4))) ++ wsX30 ++ wsX20 ++ wsX10 ++ wsX00)
def wsX4_init : List Cond := .code yX4_init cX4_init 2 none :: ([.fieldLink RX4 3 "CoracleRaceModel$State" "this$0" "LCoracleRaceModel;", .methodLink RX4 9 objectInit, .instanceMethod objectInit, .code objectInit ⟨#[0xb1]⟩ 1 none, .arrayClass .int, .fieldLink RX4 15 "CoracleRaceModel$State" "place" "[I", .fieldLink RX4 19 "CoracleRaceModel$State" "lane" "[I", .fieldLink RX4 22 "CoracleRaceModel$State" "heads" "[I", .fieldLink RX4 25 "CoracleRaceModel$State" "soaked" "[I", .fieldLink RX4 28 "CoracleRaceModel$State" "fouls" "[I", .fieldLink RX4 31 "CoracleRaceModel$State" "came" "[I", .fieldLink RX4 34 "CoracleRaceModel$State" "spins" "[I", .fieldLink RX4 37 "CoracleRaceModel$State" "stops" "[I", .fieldLink RX4 40 "CoracleRaceModel$State" "length" "[I", .fieldLink RX4 43 "CoracleRaceModel$State" "strokes" "[I"] ++ wsX40)
def wsX4_copy : List Cond := .code yX4_copy cX4_copy 3 none :: ([.methodLink RX4 46 arraycopyName, .native arraycopyName, .static arraycopyName, .initialized "java/lang/System"])
def wsX4_become : List Cond := .code yX4_become cX4_become 2 none :: ([.fieldLink RX4 52 "CoracleRaceModel$State" "tick" "I", .fieldLink RX4 15 "CoracleRaceModel$State" "place" "[I", .fieldLink RX4 19 "CoracleRaceModel$State" "lane" "[I", .fieldLink RX4 22 "CoracleRaceModel$State" "heads" "[I", .fieldLink RX4 25 "CoracleRaceModel$State" "soaked" "[I", .fieldLink RX4 28 "CoracleRaceModel$State" "fouls" "[I", .fieldLink RX4 31 "CoracleRaceModel$State" "came" "[I", .fieldLink RX4 34 "CoracleRaceModel$State" "spins" "[I", .fieldLink RX4 37 "CoracleRaceModel$State" "stops" "[I", .fieldLink RX4 40 "CoracleRaceModel$State" "length" "[I", .fieldLink RX4 43 "CoracleRaceModel$State" "strokes" "[I", .methodLink RX4 56 yX4_copy, .instanceMethod yX4_copy, .selects RX4 yX4_copy yX4_copy, .initialized RX4, .code yX4_copy cX4_copy 3 none, .methodLink RX4 46 arraycopyName, .native arraycopyName, .static arraycopyName, .initialized "java/lang/System"] ++ wsX40)
def wsX4_isIn : List Cond := .code yX4_isIn cX4_isIn 2 (some .boolean) :: ([.fieldLink RX4 31 "CoracleRaceModel$State" "came" "[I"] ++ wsX40)
def wsX4_time : List Cond := .code yX4_time cX4_time 2 (some .int) :: ([.fieldLink RX4 31 "CoracleRaceModel$State" "came" "[I", .fieldLink RX4 28 "CoracleRaceModel$State" "fouls" "[I", .methodLink RX4 60 yX4_isIn, .instanceMethod yX4_isIn, .selects RX4 yX4_isIn yX4_isIn, .initialized RX4, .code yX4_isIn cX4_isIn 2 (some .boolean)] ++ wsX40)
def wsX4_stroke : List Cond := .code yX4_stroke cX4_stroke 3 (some .int) :: ([.fieldLink RX4 43 "CoracleRaceModel$State" "strokes" "[I", .fieldLink RX4 40 "CoracleRaceModel$State" "length" "[I"] ++ wsX40)
def wsX4_soak : List Cond := .code yX4_soak cX4_soak 3 none :: ([.fieldLink RX4 25 "CoracleRaceModel$State" "soaked" "[I", .methodLink RX4 67 Lib.Math.min.name, .static Lib.Math.min.name, .initialized "java/lang/Math", .code Lib.Math.min.name Lib.Math.min.code 2 (some .int)] ++ wsX40)
def wsX4_paddles : List Cond := .code yX4_paddles cX4_paddles 4 (some .int) :: ([.fieldLink RX4 52 "CoracleRaceModel$State" "tick" "I", .fieldLink RX4 40 "CoracleRaceModel$State" "length" "[I", .fieldLink RX4 22 "CoracleRaceModel$State" "heads" "[I", .methodLink RX4 76 Lib.Math.abs.name, .static Lib.Math.abs.name, .initialized "java/lang/Math", .code Lib.Math.abs.name Lib.Math.abs.code 1 (some .int), .fieldLink RX4 34 "CoracleRaceModel$State" "spins" "[I", .fieldLink RX4 3 "CoracleRaceModel$State" "this$0" "LCoracleRaceModel;", .fieldLink RX4 25 "CoracleRaceModel$State" "soaked" "[I", .methodLink RX4 83 Lib.Math.max.name, .static Lib.Math.max.name, .code Lib.Math.max.name Lib.Math.max.code 2 (some .int), .methodLink RX4 73 yX4_stroke, .instanceMethod yX4_stroke, .selects RX4 yX4_stroke yX4_stroke, .initialized RX4, .code yX4_stroke cX4_stroke 3 (some .int), .fieldLink RX4 43 "CoracleRaceModel$State" "strokes" "[I"] ++ wsX40 ++ wsX50)
def wsX4_drift : List Cond := .code yX4_drift cX4_drift 3 none :: ([.fieldLink RX4 19 "CoracleRaceModel$State" "lane" "[I", .fieldLink RX4 22 "CoracleRaceModel$State" "heads" "[I", .fieldLink RX4 28 "CoracleRaceModel$State" "fouls" "[I"] ++ wsX40)
def wsX4_stopsAt : List Cond := .code yX4_stopsAt cX4_stopsAt 5 (some .int) :: ([.fieldLink RX4 3 "CoracleRaceModel$State" "this$0" "LCoracleRaceModel;", .fieldLink RX4 15 "CoracleRaceModel$State" "place" "[I", .fieldLink RX4 19 "CoracleRaceModel$State" "lane" "[I"] ++ wsX40 ++ wsX50)
def wsX4_go_r1 : List Cond := [Cond.fieldLink RX4 15 "CoracleRaceModel$State" "place" "[I", Cond.fieldLink RX4 22 "CoracleRaceModel$State" "heads" "[I", Cond.methodLink RX4 76 Lib.Math.abs.name, Cond.static Lib.Math.abs.name, Cond.initialized "java/lang/Math", Cond.code Lib.Math.abs.name Lib.Math.abs.code 1 (some .int), Cond.fieldLink RX4 3 "CoracleRaceModel$State" "this$0" "LCoracleRaceModel;", Cond.fieldLink RX4 19 "CoracleRaceModel$State" "lane" "[I", Cond.fieldLink RX4 37 "CoracleRaceModel$State" "stops" "[I", Cond.methodLink RX4 67 Lib.Math.min.name, Cond.static Lib.Math.min.name, Cond.code Lib.Math.min.name Lib.Math.min.code 2 (some .int), Cond.fieldLink RX4 52 "CoracleRaceModel$State" "tick" "I", Cond.fieldLink RX4 31 "CoracleRaceModel$State" "came" "[I", Cond.methodLink RX4 95 yX4_paddles, Cond.instanceMethod yX4_paddles, Cond.selects RX4 yX4_paddles yX4_paddles, Cond.initialized RX4, Cond.code yX4_paddles cX4_paddles 4 (some .int), Cond.fieldLink RX4 40 "CoracleRaceModel$State" "length" "[I", Cond.fieldLink RX4 34 "CoracleRaceModel$State" "spins" "[I", Cond.fieldLink RX4 25 "CoracleRaceModel$State" "soaked" "[I", Cond.methodLink RX4 83 Lib.Math.max.name, Cond.static Lib.Math.max.name]
def wsX4_go_r2 : List Cond := [Cond.code Lib.Math.max.name Lib.Math.max.code 2 (some .int), Cond.methodLink RX4 73 yX4_stroke, Cond.instanceMethod yX4_stroke, Cond.selects RX4 yX4_stroke yX4_stroke, Cond.code yX4_stroke cX4_stroke 3 (some .int), Cond.fieldLink RX4 43 "CoracleRaceModel$State" "strokes" "[I", Cond.methodLink RX4 98 yX4_drift, Cond.instanceMethod yX4_drift, Cond.selects RX4 yX4_drift yX4_drift, Cond.code yX4_drift cX4_drift 3 none, Cond.fieldLink RX4 28 "CoracleRaceModel$State" "fouls" "[I", Cond.methodLink RX4 105 yX4_stopsAt, Cond.instanceMethod yX4_stopsAt, Cond.selects RX4 yX4_stopsAt yX4_stopsAt, Cond.code yX4_stopsAt cX4_stopsAt 5 (some .int), Cond.methodLink RX4 108 yX4_soak, Cond.instanceMethod yX4_soak, Cond.selects RX4 yX4_soak yX4_soak, Cond.code yX4_soak cX4_soak 3 none]
def wsX4_go : List Cond := .code yX4_go cX4_go 5 none :: ((wsX4_go_r1 ++ wsX4_go_r2) ++ wsX40 ++ wsX50)
def wsX4_go__r1 : List Cond := [Cond.fieldLink RX4 3 "CoracleRaceModel$State" "this$0" "LCoracleRaceModel;", Cond.fieldLink RX4 52 "CoracleRaceModel$State" "tick" "I", Cond.methodLink RX4 60 yX4_isIn, Cond.instanceMethod yX4_isIn, Cond.selects RX4 yX4_isIn yX4_isIn, Cond.initialized RX4, Cond.code yX4_isIn cX4_isIn 2 (some .boolean), Cond.fieldLink RX4 31 "CoracleRaceModel$State" "came" "[I", Cond.methodLink RX4 115 yX4_go, Cond.instanceMethod yX4_go, Cond.selects RX4 yX4_go yX4_go, Cond.code yX4_go cX4_go 5 none, Cond.fieldLink RX4 15 "CoracleRaceModel$State" "place" "[I", Cond.fieldLink RX4 22 "CoracleRaceModel$State" "heads" "[I", Cond.methodLink RX4 76 Lib.Math.abs.name, Cond.static Lib.Math.abs.name, Cond.initialized "java/lang/Math", Cond.code Lib.Math.abs.name Lib.Math.abs.code 1 (some .int), Cond.fieldLink RX4 19 "CoracleRaceModel$State" "lane" "[I", Cond.fieldLink RX4 37 "CoracleRaceModel$State" "stops" "[I", Cond.methodLink RX4 67 Lib.Math.min.name, Cond.static Lib.Math.min.name, Cond.code Lib.Math.min.name Lib.Math.min.code 2 (some .int), Cond.methodLink RX4 95 yX4_paddles]
def wsX4_go__r2 : List Cond := [Cond.instanceMethod yX4_paddles, Cond.selects RX4 yX4_paddles yX4_paddles, Cond.code yX4_paddles cX4_paddles 4 (some .int), Cond.fieldLink RX4 40 "CoracleRaceModel$State" "length" "[I", Cond.fieldLink RX4 34 "CoracleRaceModel$State" "spins" "[I", Cond.fieldLink RX4 25 "CoracleRaceModel$State" "soaked" "[I", Cond.methodLink RX4 83 Lib.Math.max.name, Cond.static Lib.Math.max.name, Cond.code Lib.Math.max.name Lib.Math.max.code 2 (some .int), Cond.methodLink RX4 73 yX4_stroke, Cond.instanceMethod yX4_stroke, Cond.selects RX4 yX4_stroke yX4_stroke, Cond.code yX4_stroke cX4_stroke 3 (some .int), Cond.fieldLink RX4 43 "CoracleRaceModel$State" "strokes" "[I", Cond.methodLink RX4 98 yX4_drift, Cond.instanceMethod yX4_drift, Cond.selects RX4 yX4_drift yX4_drift, Cond.code yX4_drift cX4_drift 3 none, Cond.fieldLink RX4 28 "CoracleRaceModel$State" "fouls" "[I", Cond.methodLink RX4 105 yX4_stopsAt, Cond.instanceMethod yX4_stopsAt, Cond.selects RX4 yX4_stopsAt yX4_stopsAt, Cond.code yX4_stopsAt cX4_stopsAt 5 (some .int), Cond.methodLink RX4 108 yX4_soak]
def wsX4_go__r3 : List Cond := [Cond.instanceMethod yX4_soak, Cond.selects RX4 yX4_soak yX4_soak, Cond.code yX4_soak cX4_soak 3 none]
def wsX4_go_ : List Cond := .code yX4_go_ cX4_go_ 2 none :: ((wsX4_go__r1 ++ (wsX4_go__r2 ++ wsX4_go__r3)) ++ wsX40 ++ wsX50)
def wsX4_in : List Cond := .code yX4_in cX4_in 3 (some .int) :: ([.fieldLink RX4 3 "CoracleRaceModel$State" "this$0" "LCoracleRaceModel;", .methodLink RX4 60 yX4_isIn, .instanceMethod yX4_isIn, .selects RX4 yX4_isIn yX4_isIn, .initialized RX4, .code yX4_isIn cX4_isIn 2 (some .boolean), .fieldLink RX4 31 "CoracleRaceModel$State" "came" "[I"] ++ wsX40 ++ wsX50)
def wsX4_counted : List Cond := .code yX4_counted cX4_counted 6 (some .int) :: ([.fieldLink RX4 3 "CoracleRaceModel$State" "this$0" "LCoracleRaceModel;", .fieldLink RX4 28 "CoracleRaceModel$State" "fouls" "[I", .fieldLink RX4 15 "CoracleRaceModel$State" "place" "[I", .arrayClass .int, .fieldLink RX4 52 "CoracleRaceModel$State" "tick" "I", .methodLink RX4 60 yX4_isIn, .instanceMethod yX4_isIn, .selects RX4 yX4_isIn yX4_isIn, .initialized RX4, .code yX4_isIn cX4_isIn 2 (some .boolean), .fieldLink RX4 31 "CoracleRaceModel$State" "came" "[I", .methodLink RX4 118 yX4_time, .instanceMethod yX4_time, .selects RX4 yX4_time yX4_time, .code yX4_time cX4_time 2 (some .int), .methodLink RX4 121 yX4_in, .instanceMethod yX4_in, .selects RX4 yX4_in yX4_in, .code yX4_in cX4_in 3 (some .int)] ++ wsX40 ++ wsX50)
def wsX5_init_r1 : List Cond := [Cond.methodLink RX5 1 objectInit, Cond.instanceMethod objectInit, Cond.code objectInit ⟨#[0xb1]⟩ 1 none, Cond.arrayClass .int, Cond.fieldLink RX5 7 "CoracleRaceModel" "water" "[I", Cond.fieldLink RX5 13 "CoracleRaceModel" "weirAt" "[I", Cond.fieldLink RX5 16 "CoracleRaceModel" "gap" "[I", Cond.fieldLink RX5 19 "CoracleRaceModel" "strength" "[I", Cond.classLink RX5 22 RX4, Cond.instantiable RX4 12, Cond.initialized RX4, Cond.fieldLink RX5 27 "CoracleRaceModel" "s" "LCoracleRaceModel$State;", Cond.fieldLink RX5 31 "CoracleRaceModel" "ahead" "LCoracleRaceModel$State;", Cond.instanceMethod yX4_init, Cond.code yX4_init cX4_init 2 none, Cond.fieldLink RX4 3 "CoracleRaceModel$State" "this$0" "LCoracleRaceModel;", Cond.methodLink RX4 9 objectInit, Cond.fieldLink RX4 15 "CoracleRaceModel$State" "place" "[I", Cond.fieldLink RX4 19 "CoracleRaceModel$State" "lane" "[I", Cond.fieldLink RX4 22 "CoracleRaceModel$State" "heads" "[I", Cond.fieldLink RX4 25 "CoracleRaceModel$State" "soaked" "[I", Cond.fieldLink RX4 28 "CoracleRaceModel$State" "fouls" "[I", Cond.fieldLink RX4 31 "CoracleRaceModel$State" "came" "[I", Cond.fieldLink RX4 34 "CoracleRaceModel$State" "spins" "[I"]
def wsX5_init_r2 : List Cond := [Cond.fieldLink RX4 37 "CoracleRaceModel$State" "stops" "[I", Cond.fieldLink RX4 40 "CoracleRaceModel$State" "length" "[I", Cond.fieldLink RX4 43 "CoracleRaceModel$State" "strokes" "[I"]
def wsX5_init : List Cond := .code yX5_init cX5_init 1 none :: ((wsX5_init_r1 ++ wsX5_init_r2) ++ wsX50 ++ wsX40)
def wsX5_thrown : List Cond := .code yX5_thrown cX5_thrown 1 (some .int) :: ([.fieldLink RX5 34 "CoracleRaceModel" "thrown" "I"] ++ wsX50)
def wsX5_no : List Cond := .code yX5_no cX5_no 2 (some .int) :: ([.fieldLink RX5 34 "CoracleRaceModel" "thrown" "I"] ++ wsX50)
def wsX5_isFrom : List Cond := .code yX5_isFrom cX5_isFrom 3 (some .boolean) :: ([])
def wsX5_isBoat : List Cond := .code yX5_isBoat cX5_isBoat 2 (some .boolean) :: ([.fieldLink RX5 38 "CoracleRaceModel" "boats" "I", .methodLink RX5 41 yX5_isFrom, .static yX5_isFrom, .initialized RX5, .code yX5_isFrom cX5_isFrom 3 (some .boolean)] ++ wsX50)
def wsX5_setWater : List Cond := .code yX5_setWater cX5_setWater 4 (some .int) :: ([.fieldLink RX5 34 "CoracleRaceModel" "thrown" "I", .fieldLink RX5 7 "CoracleRaceModel" "water" "[I", .methodLink RX5 41 yX5_isFrom, .static yX5_isFrom, .initialized RX5, .code yX5_isFrom cX5_isFrom 3 (some .boolean), .methodLink RX5 45 yX5_no, .instanceMethod yX5_no, .selects RX5 yX5_no yX5_no, .code yX5_no cX5_no 2 (some .int)] ++ wsX50)
def wsX5_weir : List Cond := .code yX5_weir cX5_weir 5 (some .int) :: ([.fieldLink RX5 34 "CoracleRaceModel" "thrown" "I", .fieldLink RX5 49 "CoracleRaceModel" "weirs" "I", .fieldLink RX5 13 "CoracleRaceModel" "weirAt" "[I", .fieldLink RX5 16 "CoracleRaceModel" "gap" "[I", .methodLink RX5 41 yX5_isFrom, .static yX5_isFrom, .initialized RX5, .code yX5_isFrom cX5_isFrom 3 (some .boolean), .methodLink RX5 45 yX5_no, .instanceMethod yX5_no, .selects RX5 yX5_no yX5_no, .code yX5_no cX5_no 2 (some .int)] ++ wsX50)
def wsX5_launch : List Cond := .code yX5_launch cX5_launch 3 (some .int) :: ([.fieldLink RX5 34 "CoracleRaceModel" "thrown" "I", .fieldLink RX5 38 "CoracleRaceModel" "boats" "I", .fieldLink RX5 19 "CoracleRaceModel" "strength" "[I", .fieldLink RX5 27 "CoracleRaceModel" "s" "LCoracleRaceModel$State;", .methodLink RX5 41 yX5_isFrom, .static yX5_isFrom, .initialized RX5, .code yX5_isFrom cX5_isFrom 3 (some .boolean), .methodLink RX5 45 yX5_no, .instanceMethod yX5_no, .selects RX5 yX5_no yX5_no, .code yX5_no cX5_no 2 (some .int)] ++ wsX50 ++ wsX40)
def wsX5_isPattern : List Cond := .code yX5_isPattern cX5_isPattern 3 (some .boolean) :: ([.fieldLink RX5 64 "CoracleRaceModel" "TENS" "[I", .methodLink RX5 41 yX5_isFrom, .static yX5_isFrom, .initialized RX5, .code yX5_isFrom cX5_isFrom 3 (some .boolean)])
def wsX5_paddle : List Cond := .code yX5_paddle cX5_paddle 5 (some .int) :: ([.fieldLink RX5 34 "CoracleRaceModel" "thrown" "I", .fieldLink RX5 27 "CoracleRaceModel" "s" "LCoracleRaceModel$State;", .methodLink RX5 67 yX5_isBoat, .instanceMethod yX5_isBoat, .selects RX5 yX5_isBoat yX5_isBoat, .initialized RX5, .code yX5_isBoat cX5_isBoat 2 (some .boolean), .fieldLink RX5 38 "CoracleRaceModel" "boats" "I", .methodLink RX5 41 yX5_isFrom, .static yX5_isFrom, .code yX5_isFrom cX5_isFrom 3 (some .boolean), .methodLink RX5 45 yX5_no, .instanceMethod yX5_no, .selects RX5 yX5_no yX5_no, .code yX5_no cX5_no 2 (some .int), .methodLink RX5 71 yX5_isPattern, .static yX5_isPattern, .code yX5_isPattern cX5_isPattern 3 (some .boolean), .fieldLink RX5 64 "CoracleRaceModel" "TENS" "[I"] ++ wsX50 ++ wsX40)
def wsX5_tar : List Cond := .code yX5_tar cX5_tar 3 (some .int) :: ([.fieldLink RX5 34 "CoracleRaceModel" "thrown" "I", .fieldLink RX5 27 "CoracleRaceModel" "s" "LCoracleRaceModel$State;", .methodLink RX5 67 yX5_isBoat, .instanceMethod yX5_isBoat, .selects RX5 yX5_isBoat yX5_isBoat, .initialized RX5, .code yX5_isBoat cX5_isBoat 2 (some .boolean), .fieldLink RX5 38 "CoracleRaceModel" "boats" "I", .methodLink RX5 41 yX5_isFrom, .static yX5_isFrom, .code yX5_isFrom cX5_isFrom 3 (some .boolean), .methodLink RX5 45 yX5_no, .instanceMethod yX5_no, .selects RX5 yX5_no yX5_no, .code yX5_no cX5_no 2 (some .int), .methodLink RX5 75 yX4_isIn, .instanceMethod yX4_isIn, .selects RX4 yX4_isIn yX4_isIn, .initialized RX4, .code yX4_isIn cX4_isIn 2 (some .boolean), .fieldLink RX4 31 "CoracleRaceModel$State" "came" "[I"] ++ wsX50 ++ wsX40)
def wsX5_boatTold : List Cond := .code yX5_boatTold cX5_boatTold 4 (some .int) :: ([.arrayClass .int, .fieldLink RX5 27 "CoracleRaceModel" "s" "LCoracleRaceModel$State;", .methodLink RX5 75 yX4_isIn, .instanceMethod yX4_isIn, .selects RX4 yX4_isIn yX4_isIn, .initialized RX4, .code yX4_isIn cX4_isIn 2 (some .boolean), .fieldLink RX4 31 "CoracleRaceModel$State" "came" "[I", .methodLink RX5 90 yX4_time, .instanceMethod yX4_time, .selects RX4 yX4_time yX4_time, .code yX4_time cX4_time 2 (some .int), .fieldLink RX4 28 "CoracleRaceModel$State" "fouls" "[I", .methodLink RX4 60 yX4_isIn] ++ wsX50 ++ wsX40)
def wsX5_boat_r1 : List Cond := [Cond.fieldLink RX5 34 "CoracleRaceModel" "thrown" "I", Cond.methodLink RX5 67 yX5_isBoat, Cond.instanceMethod yX5_isBoat, Cond.selects RX5 yX5_isBoat yX5_isBoat, Cond.initialized RX5, Cond.code yX5_isBoat cX5_isBoat 2 (some .boolean), Cond.fieldLink RX5 38 "CoracleRaceModel" "boats" "I", Cond.methodLink RX5 41 yX5_isFrom, Cond.static yX5_isFrom, Cond.code yX5_isFrom cX5_isFrom 3 (some .boolean), Cond.methodLink RX5 99 yX5_boatTold, Cond.instanceMethod yX5_boatTold, Cond.selects RX5 yX5_boatTold yX5_boatTold, Cond.code yX5_boatTold cX5_boatTold 4 (some .int), Cond.arrayClass .int, Cond.fieldLink RX5 27 "CoracleRaceModel" "s" "LCoracleRaceModel$State;", Cond.methodLink RX5 75 yX4_isIn, Cond.instanceMethod yX4_isIn, Cond.selects RX4 yX4_isIn yX4_isIn, Cond.initialized RX4, Cond.code yX4_isIn cX4_isIn 2 (some .boolean), Cond.fieldLink RX4 31 "CoracleRaceModel$State" "came" "[I", Cond.methodLink RX5 90 yX4_time, Cond.instanceMethod yX4_time]
def wsX5_boat_r2 : List Cond := [Cond.selects RX4 yX4_time yX4_time, Cond.code yX4_time cX4_time 2 (some .int), Cond.fieldLink RX4 28 "CoracleRaceModel$State" "fouls" "[I", Cond.methodLink RX4 60 yX4_isIn, Cond.methodLink RX5 45 yX5_no, Cond.instanceMethod yX5_no, Cond.selects RX5 yX5_no yX5_no, Cond.code yX5_no cX5_no 2 (some .int)]
def wsX5_boat : List Cond := .code yX5_boat cX5_boat 3 (some .int) :: ((wsX5_boat_r1 ++ wsX5_boat_r2) ++ wsX50 ++ wsX40)
def wsX5_count_r1 : List Cond := [Cond.fieldLink RX5 34 "CoracleRaceModel" "thrown" "I", Cond.fieldLink RX5 27 "CoracleRaceModel" "s" "LCoracleRaceModel$State;", Cond.methodLink RX5 41 yX5_isFrom, Cond.static yX5_isFrom, Cond.initialized RX5, Cond.code yX5_isFrom cX5_isFrom 3 (some .boolean), Cond.methodLink RX5 103 yX4_counted, Cond.instanceMethod yX4_counted, Cond.selects RX4 yX4_counted yX4_counted, Cond.initialized RX4, Cond.code yX4_counted cX4_counted 6 (some .int), Cond.fieldLink RX4 3 "CoracleRaceModel$State" "this$0" "LCoracleRaceModel;", Cond.fieldLink RX4 28 "CoracleRaceModel$State" "fouls" "[I", Cond.fieldLink RX4 15 "CoracleRaceModel$State" "place" "[I", Cond.arrayClass .int, Cond.fieldLink RX4 52 "CoracleRaceModel$State" "tick" "I", Cond.methodLink RX4 60 yX4_isIn, Cond.instanceMethod yX4_isIn, Cond.selects RX4 yX4_isIn yX4_isIn, Cond.code yX4_isIn cX4_isIn 2 (some .boolean), Cond.fieldLink RX4 31 "CoracleRaceModel$State" "came" "[I", Cond.methodLink RX4 118 yX4_time, Cond.instanceMethod yX4_time, Cond.selects RX4 yX4_time yX4_time]
def wsX5_count_r2 : List Cond := [Cond.code yX4_time cX4_time 2 (some .int), Cond.methodLink RX4 121 yX4_in, Cond.instanceMethod yX4_in, Cond.selects RX4 yX4_in yX4_in, Cond.code yX4_in cX4_in 3 (some .int), Cond.methodLink RX5 45 yX5_no, Cond.instanceMethod yX5_no, Cond.selects RX5 yX5_no yX5_no, Cond.code yX5_no cX5_no 2 (some .int)]
def wsX5_count : List Cond := .code yX5_count cX5_count 2 (some .int) :: ((wsX5_count_r1 ++ wsX5_count_r2) ++ wsX50 ++ wsX40)
def wsX5_next : List Cond := .code yX5_next cX5_next 4 (some .int) :: ([.fieldLink RX5 34 "CoracleRaceModel" "thrown" "I", .fieldLink RX5 49 "CoracleRaceModel" "weirs" "I", .fieldLink RX5 13 "CoracleRaceModel" "weirAt" "[I", .methodLink RX5 106 Lib.Math.min.name, .static Lib.Math.min.name, .initialized "java/lang/Math", .code Lib.Math.min.name Lib.Math.min.code 2 (some .int), .methodLink RX5 41 yX5_isFrom, .static yX5_isFrom, .initialized RX5, .code yX5_isFrom cX5_isFrom 3 (some .boolean), .methodLink RX5 45 yX5_no, .instanceMethod yX5_no, .selects RX5 yX5_no yX5_no, .code yX5_no cX5_no 2 (some .int)] ++ wsX50)
def wsX5_isAhead : List Cond := .code yX5_isAhead cX5_isAhead 3 (some .boolean) :: ([.fieldLink RX5 27 "CoracleRaceModel" "s" "LCoracleRaceModel$State;", .methodLink RX5 75 yX4_isIn, .instanceMethod yX4_isIn, .selects RX4 yX4_isIn yX4_isIn, .initialized RX4, .code yX4_isIn cX4_isIn 2 (some .boolean), .fieldLink RX4 31 "CoracleRaceModel$State" "came" "[I", .methodLink RX5 90 yX4_time, .instanceMethod yX4_time, .selects RX4 yX4_time yX4_time, .code yX4_time cX4_time 2 (some .int), .fieldLink RX4 28 "CoracleRaceModel$State" "fouls" "[I", .methodLink RX4 60 yX4_isIn] ++ wsX50 ++ wsX40)
def wsX5_rankOf : List Cond := .code yX5_rankOf cX5_rankOf 4 (some .int) :: ([.fieldLink RX5 38 "CoracleRaceModel" "boats" "I", .methodLink RX5 111 yX5_isAhead, .instanceMethod yX5_isAhead, .selects RX5 yX5_isAhead yX5_isAhead, .initialized RX5, .code yX5_isAhead cX5_isAhead 3 (some .boolean), .fieldLink RX5 27 "CoracleRaceModel" "s" "LCoracleRaceModel$State;", .methodLink RX5 75 yX4_isIn, .instanceMethod yX4_isIn, .selects RX4 yX4_isIn yX4_isIn, .initialized RX4, .code yX4_isIn cX4_isIn 2 (some .boolean), .fieldLink RX4 31 "CoracleRaceModel$State" "came" "[I", .methodLink RX5 90 yX4_time, .instanceMethod yX4_time, .selects RX4 yX4_time yX4_time, .code yX4_time cX4_time 2 (some .int), .fieldLink RX4 28 "CoracleRaceModel$State" "fouls" "[I", .methodLink RX4 60 yX4_isIn] ++ wsX50 ++ wsX40)
def wsX5_rank_r1 : List Cond := [Cond.fieldLink RX5 34 "CoracleRaceModel" "thrown" "I", Cond.methodLink RX5 67 yX5_isBoat, Cond.instanceMethod yX5_isBoat, Cond.selects RX5 yX5_isBoat yX5_isBoat, Cond.initialized RX5, Cond.code yX5_isBoat cX5_isBoat 2 (some .boolean), Cond.fieldLink RX5 38 "CoracleRaceModel" "boats" "I", Cond.methodLink RX5 41 yX5_isFrom, Cond.static yX5_isFrom, Cond.code yX5_isFrom cX5_isFrom 3 (some .boolean), Cond.methodLink RX5 114 yX5_rankOf, Cond.instanceMethod yX5_rankOf, Cond.selects RX5 yX5_rankOf yX5_rankOf, Cond.code yX5_rankOf cX5_rankOf 4 (some .int), Cond.methodLink RX5 111 yX5_isAhead, Cond.instanceMethod yX5_isAhead, Cond.selects RX5 yX5_isAhead yX5_isAhead, Cond.code yX5_isAhead cX5_isAhead 3 (some .boolean), Cond.fieldLink RX5 27 "CoracleRaceModel" "s" "LCoracleRaceModel$State;", Cond.methodLink RX5 75 yX4_isIn, Cond.instanceMethod yX4_isIn, Cond.selects RX4 yX4_isIn yX4_isIn, Cond.initialized RX4, Cond.code yX4_isIn cX4_isIn 2 (some .boolean)]
def wsX5_rank_r2 : List Cond := [Cond.fieldLink RX4 31 "CoracleRaceModel$State" "came" "[I", Cond.methodLink RX5 90 yX4_time, Cond.instanceMethod yX4_time, Cond.selects RX4 yX4_time yX4_time, Cond.code yX4_time cX4_time 2 (some .int), Cond.fieldLink RX4 28 "CoracleRaceModel$State" "fouls" "[I", Cond.methodLink RX4 60 yX4_isIn, Cond.methodLink RX5 45 yX5_no, Cond.instanceMethod yX5_no, Cond.selects RX5 yX5_no yX5_no, Cond.code yX5_no cX5_no 2 (some .int)]
def wsX5_rank : List Cond := .code yX5_rank cX5_rank 2 (some .int) :: ((wsX5_rank_r1 ++ wsX5_rank_r2) ++ wsX50 ++ wsX40)
def wsX5_go_r1 : List Cond := [Cond.fieldLink RX5 34 "CoracleRaceModel" "thrown" "I", Cond.fieldLink RX5 27 "CoracleRaceModel" "s" "LCoracleRaceModel$State;", Cond.methodLink RX5 41 yX5_isFrom, Cond.static yX5_isFrom, Cond.initialized RX5, Cond.code yX5_isFrom cX5_isFrom 3 (some .boolean), Cond.methodLink RX5 45 yX5_no, Cond.instanceMethod yX5_no, Cond.selects RX5 yX5_no yX5_no, Cond.code yX5_no cX5_no 2 (some .int), Cond.methodLink RX5 117 yX4_in, Cond.instanceMethod yX4_in, Cond.selects RX4 yX4_in yX4_in, Cond.initialized RX4, Cond.code yX4_in cX4_in 3 (some .int), Cond.fieldLink RX4 3 "CoracleRaceModel$State" "this$0" "LCoracleRaceModel;", Cond.methodLink RX4 60 yX4_isIn, Cond.instanceMethod yX4_isIn, Cond.selects RX4 yX4_isIn yX4_isIn, Cond.code yX4_isIn cX4_isIn 2 (some .boolean), Cond.fieldLink RX4 31 "CoracleRaceModel$State" "came" "[I", Cond.methodLink RX5 121 yX4_go_, Cond.instanceMethod yX4_go_, Cond.selects RX4 yX4_go_ yX4_go_]
def wsX5_go_r2 : List Cond := [Cond.code yX4_go_ cX4_go_ 2 none, Cond.fieldLink RX4 52 "CoracleRaceModel$State" "tick" "I", Cond.methodLink RX4 115 yX4_go, Cond.instanceMethod yX4_go, Cond.selects RX4 yX4_go yX4_go, Cond.code yX4_go cX4_go 5 none, Cond.fieldLink RX4 15 "CoracleRaceModel$State" "place" "[I", Cond.fieldLink RX4 22 "CoracleRaceModel$State" "heads" "[I", Cond.methodLink RX4 76 Lib.Math.abs.name, Cond.static Lib.Math.abs.name, Cond.initialized "java/lang/Math", Cond.code Lib.Math.abs.name Lib.Math.abs.code 1 (some .int), Cond.fieldLink RX4 19 "CoracleRaceModel$State" "lane" "[I", Cond.fieldLink RX4 37 "CoracleRaceModel$State" "stops" "[I", Cond.methodLink RX4 67 Lib.Math.min.name, Cond.static Lib.Math.min.name, Cond.code Lib.Math.min.name Lib.Math.min.code 2 (some .int), Cond.methodLink RX4 95 yX4_paddles, Cond.instanceMethod yX4_paddles, Cond.selects RX4 yX4_paddles yX4_paddles, Cond.code yX4_paddles cX4_paddles 4 (some .int), Cond.fieldLink RX4 40 "CoracleRaceModel$State" "length" "[I", Cond.fieldLink RX4 34 "CoracleRaceModel$State" "spins" "[I", Cond.fieldLink RX4 25 "CoracleRaceModel$State" "soaked" "[I"]
def wsX5_go_r3 : List Cond := [Cond.methodLink RX4 83 Lib.Math.max.name, Cond.static Lib.Math.max.name, Cond.code Lib.Math.max.name Lib.Math.max.code 2 (some .int), Cond.methodLink RX4 73 yX4_stroke, Cond.instanceMethod yX4_stroke, Cond.selects RX4 yX4_stroke yX4_stroke, Cond.code yX4_stroke cX4_stroke 3 (some .int), Cond.fieldLink RX4 43 "CoracleRaceModel$State" "strokes" "[I", Cond.methodLink RX4 98 yX4_drift, Cond.instanceMethod yX4_drift, Cond.selects RX4 yX4_drift yX4_drift, Cond.code yX4_drift cX4_drift 3 none, Cond.fieldLink RX4 28 "CoracleRaceModel$State" "fouls" "[I", Cond.methodLink RX4 105 yX4_stopsAt, Cond.instanceMethod yX4_stopsAt, Cond.selects RX4 yX4_stopsAt yX4_stopsAt, Cond.code yX4_stopsAt cX4_stopsAt 5 (some .int), Cond.methodLink RX4 108 yX4_soak, Cond.instanceMethod yX4_soak, Cond.selects RX4 yX4_soak yX4_soak, Cond.code yX4_soak cX4_soak 3 none]
def wsX5_go : List Cond := .code yX5_go cX5_go 4 (some .int) :: ((wsX5_go_r1 ++ (wsX5_go_r2 ++ wsX5_go_r3)) ++ wsX50 ++ wsX40)
def wsX5_arrives_r1 : List Cond := [Cond.fieldLink RX5 34 "CoracleRaceModel" "thrown" "I", Cond.fieldLink RX5 31 "CoracleRaceModel" "ahead" "LCoracleRaceModel$State;", Cond.fieldLink RX5 27 "CoracleRaceModel" "s" "LCoracleRaceModel$State;", Cond.methodLink RX5 67 yX5_isBoat, Cond.instanceMethod yX5_isBoat, Cond.selects RX5 yX5_isBoat yX5_isBoat, Cond.initialized RX5, Cond.code yX5_isBoat cX5_isBoat 2 (some .boolean), Cond.fieldLink RX5 38 "CoracleRaceModel" "boats" "I", Cond.methodLink RX5 41 yX5_isFrom, Cond.static yX5_isFrom, Cond.code yX5_isFrom cX5_isFrom 3 (some .boolean), Cond.methodLink RX5 45 yX5_no, Cond.instanceMethod yX5_no, Cond.selects RX5 yX5_no yX5_no, Cond.code yX5_no cX5_no 2 (some .int), Cond.methodLink RX5 124 yX4_become, Cond.instanceMethod yX4_become, Cond.selects RX4 yX4_become yX4_become, Cond.initialized RX4, Cond.code yX4_become cX4_become 2 none, Cond.fieldLink RX4 52 "CoracleRaceModel$State" "tick" "I", Cond.fieldLink RX4 15 "CoracleRaceModel$State" "place" "[I", Cond.fieldLink RX4 19 "CoracleRaceModel$State" "lane" "[I"]
def wsX5_arrives_r2 : List Cond := [Cond.fieldLink RX4 22 "CoracleRaceModel$State" "heads" "[I", Cond.fieldLink RX4 25 "CoracleRaceModel$State" "soaked" "[I", Cond.fieldLink RX4 28 "CoracleRaceModel$State" "fouls" "[I", Cond.fieldLink RX4 31 "CoracleRaceModel$State" "came" "[I", Cond.fieldLink RX4 34 "CoracleRaceModel$State" "spins" "[I", Cond.fieldLink RX4 37 "CoracleRaceModel$State" "stops" "[I", Cond.fieldLink RX4 40 "CoracleRaceModel$State" "length" "[I", Cond.fieldLink RX4 43 "CoracleRaceModel$State" "strokes" "[I", Cond.methodLink RX4 56 yX4_copy, Cond.instanceMethod yX4_copy, Cond.selects RX4 yX4_copy yX4_copy, Cond.code yX4_copy cX4_copy 3 none, Cond.methodLink RX4 46 arraycopyName, Cond.native arraycopyName, Cond.static arraycopyName, Cond.initialized "java/lang/System", Cond.methodLink RX5 75 yX4_isIn, Cond.instanceMethod yX4_isIn, Cond.selects RX4 yX4_isIn yX4_isIn, Cond.code yX4_isIn cX4_isIn 2 (some .boolean), Cond.methodLink RX5 121 yX4_go_, Cond.instanceMethod yX4_go_, Cond.selects RX4 yX4_go_ yX4_go_, Cond.code yX4_go_ cX4_go_ 2 none]
def wsX5_arrives_r3 : List Cond := [Cond.fieldLink RX4 3 "CoracleRaceModel$State" "this$0" "LCoracleRaceModel;", Cond.methodLink RX4 60 yX4_isIn, Cond.methodLink RX4 115 yX4_go, Cond.instanceMethod yX4_go, Cond.selects RX4 yX4_go yX4_go, Cond.code yX4_go cX4_go 5 none, Cond.methodLink RX4 76 Lib.Math.abs.name, Cond.static Lib.Math.abs.name, Cond.initialized "java/lang/Math", Cond.code Lib.Math.abs.name Lib.Math.abs.code 1 (some .int), Cond.methodLink RX4 67 Lib.Math.min.name, Cond.static Lib.Math.min.name, Cond.code Lib.Math.min.name Lib.Math.min.code 2 (some .int), Cond.methodLink RX4 95 yX4_paddles, Cond.instanceMethod yX4_paddles, Cond.selects RX4 yX4_paddles yX4_paddles, Cond.code yX4_paddles cX4_paddles 4 (some .int), Cond.methodLink RX4 83 Lib.Math.max.name, Cond.static Lib.Math.max.name, Cond.code Lib.Math.max.name Lib.Math.max.code 2 (some .int), Cond.methodLink RX4 73 yX4_stroke, Cond.instanceMethod yX4_stroke, Cond.selects RX4 yX4_stroke yX4_stroke, Cond.code yX4_stroke cX4_stroke 3 (some .int)]
def wsX5_arrives_r4 : List Cond := [Cond.methodLink RX4 98 yX4_drift, Cond.instanceMethod yX4_drift, Cond.selects RX4 yX4_drift yX4_drift, Cond.code yX4_drift cX4_drift 3 none, Cond.methodLink RX4 105 yX4_stopsAt, Cond.instanceMethod yX4_stopsAt, Cond.selects RX4 yX4_stopsAt yX4_stopsAt, Cond.code yX4_stopsAt cX4_stopsAt 5 (some .int), Cond.methodLink RX4 108 yX4_soak, Cond.instanceMethod yX4_soak, Cond.selects RX4 yX4_soak yX4_soak, Cond.code yX4_soak cX4_soak 3 none]
def wsX5_arrives : List Cond := .code yX5_arrives cX5_arrives 3 (some .int) :: ((wsX5_arrives_r1 ++ (wsX5_arrives_r2 ++ (wsX5_arrives_r3 ++ wsX5_arrives_r4))) ++ wsX50 ++ wsX40)
def wsX5_foresee_r1 : List Cond := [Cond.fieldLink RX5 34 "CoracleRaceModel" "thrown" "I", Cond.fieldLink RX5 31 "CoracleRaceModel" "ahead" "LCoracleRaceModel$State;", Cond.fieldLink RX5 27 "CoracleRaceModel" "s" "LCoracleRaceModel$State;", Cond.methodLink RX5 41 yX5_isFrom, Cond.static yX5_isFrom, Cond.initialized RX5, Cond.code yX5_isFrom cX5_isFrom 3 (some .boolean), Cond.methodLink RX5 45 yX5_no, Cond.instanceMethod yX5_no, Cond.selects RX5 yX5_no yX5_no, Cond.code yX5_no cX5_no 2 (some .int), Cond.methodLink RX5 124 yX4_become, Cond.instanceMethod yX4_become, Cond.selects RX4 yX4_become yX4_become, Cond.initialized RX4, Cond.code yX4_become cX4_become 2 none, Cond.fieldLink RX4 52 "CoracleRaceModel$State" "tick" "I", Cond.fieldLink RX4 15 "CoracleRaceModel$State" "place" "[I", Cond.fieldLink RX4 19 "CoracleRaceModel$State" "lane" "[I", Cond.fieldLink RX4 22 "CoracleRaceModel$State" "heads" "[I", Cond.fieldLink RX4 25 "CoracleRaceModel$State" "soaked" "[I", Cond.fieldLink RX4 28 "CoracleRaceModel$State" "fouls" "[I", Cond.fieldLink RX4 31 "CoracleRaceModel$State" "came" "[I", Cond.fieldLink RX4 34 "CoracleRaceModel$State" "spins" "[I"]
def wsX5_foresee_r2 : List Cond := [Cond.fieldLink RX4 37 "CoracleRaceModel$State" "stops" "[I", Cond.fieldLink RX4 40 "CoracleRaceModel$State" "length" "[I", Cond.fieldLink RX4 43 "CoracleRaceModel$State" "strokes" "[I", Cond.methodLink RX4 56 yX4_copy, Cond.instanceMethod yX4_copy, Cond.selects RX4 yX4_copy yX4_copy, Cond.code yX4_copy cX4_copy 3 none, Cond.methodLink RX4 46 arraycopyName, Cond.native arraycopyName, Cond.static arraycopyName, Cond.initialized "java/lang/System", Cond.methodLink RX5 121 yX4_go_, Cond.instanceMethod yX4_go_, Cond.selects RX4 yX4_go_ yX4_go_, Cond.code yX4_go_ cX4_go_ 2 none, Cond.fieldLink RX4 3 "CoracleRaceModel$State" "this$0" "LCoracleRaceModel;", Cond.methodLink RX4 60 yX4_isIn, Cond.instanceMethod yX4_isIn, Cond.selects RX4 yX4_isIn yX4_isIn, Cond.code yX4_isIn cX4_isIn 2 (some .boolean), Cond.methodLink RX4 115 yX4_go, Cond.instanceMethod yX4_go, Cond.selects RX4 yX4_go yX4_go, Cond.code yX4_go cX4_go 5 none]
def wsX5_foresee_r3 : List Cond := [Cond.methodLink RX4 76 Lib.Math.abs.name, Cond.static Lib.Math.abs.name, Cond.initialized "java/lang/Math", Cond.code Lib.Math.abs.name Lib.Math.abs.code 1 (some .int), Cond.methodLink RX4 67 Lib.Math.min.name, Cond.static Lib.Math.min.name, Cond.code Lib.Math.min.name Lib.Math.min.code 2 (some .int), Cond.methodLink RX4 95 yX4_paddles, Cond.instanceMethod yX4_paddles, Cond.selects RX4 yX4_paddles yX4_paddles, Cond.code yX4_paddles cX4_paddles 4 (some .int), Cond.methodLink RX4 83 Lib.Math.max.name, Cond.static Lib.Math.max.name, Cond.code Lib.Math.max.name Lib.Math.max.code 2 (some .int), Cond.methodLink RX4 73 yX4_stroke, Cond.instanceMethod yX4_stroke, Cond.selects RX4 yX4_stroke yX4_stroke, Cond.code yX4_stroke cX4_stroke 3 (some .int), Cond.methodLink RX4 98 yX4_drift, Cond.instanceMethod yX4_drift, Cond.selects RX4 yX4_drift yX4_drift, Cond.code yX4_drift cX4_drift 3 none, Cond.methodLink RX4 105 yX4_stopsAt, Cond.instanceMethod yX4_stopsAt]
def wsX5_foresee_r4 : List Cond := [Cond.selects RX4 yX4_stopsAt yX4_stopsAt, Cond.code yX4_stopsAt cX4_stopsAt 5 (some .int), Cond.methodLink RX4 108 yX4_soak, Cond.instanceMethod yX4_soak, Cond.selects RX4 yX4_soak yX4_soak, Cond.code yX4_soak cX4_soak 3 none, Cond.methodLink RX5 103 yX4_counted, Cond.instanceMethod yX4_counted, Cond.selects RX4 yX4_counted yX4_counted, Cond.code yX4_counted cX4_counted 6 (some .int), Cond.arrayClass .int, Cond.methodLink RX4 118 yX4_time, Cond.instanceMethod yX4_time, Cond.selects RX4 yX4_time yX4_time, Cond.code yX4_time cX4_time 2 (some .int), Cond.methodLink RX4 121 yX4_in, Cond.instanceMethod yX4_in, Cond.selects RX4 yX4_in yX4_in, Cond.code yX4_in cX4_in 3 (some .int)]
def wsX5_foresee : List Cond := .code yX5_foresee cX5_foresee 4 (some .int) :: ((wsX5_foresee_r1 ++ (wsX5_foresee_r2 ++ (wsX5_foresee_r3 ++ wsX5_foresee_r4))) ++ wsX50 ++ wsX40)
def wsX5_advise_r1 : List Cond := [Cond.fieldLink RX5 34 "CoracleRaceModel" "thrown" "I", Cond.fieldLink RX5 31 "CoracleRaceModel" "ahead" "LCoracleRaceModel$State;", Cond.fieldLink RX5 27 "CoracleRaceModel" "s" "LCoracleRaceModel$State;", Cond.methodLink RX5 67 yX5_isBoat, Cond.instanceMethod yX5_isBoat, Cond.selects RX5 yX5_isBoat yX5_isBoat, Cond.initialized RX5, Cond.code yX5_isBoat cX5_isBoat 2 (some .boolean), Cond.fieldLink RX5 38 "CoracleRaceModel" "boats" "I", Cond.methodLink RX5 41 yX5_isFrom, Cond.static yX5_isFrom, Cond.code yX5_isFrom cX5_isFrom 3 (some .boolean), Cond.methodLink RX5 45 yX5_no, Cond.instanceMethod yX5_no, Cond.selects RX5 yX5_no yX5_no, Cond.code yX5_no cX5_no 2 (some .int), Cond.methodLink RX5 124 yX4_become, Cond.instanceMethod yX4_become, Cond.selects RX4 yX4_become yX4_become, Cond.initialized RX4, Cond.code yX4_become cX4_become 2 none, Cond.fieldLink RX4 52 "CoracleRaceModel$State" "tick" "I", Cond.fieldLink RX4 15 "CoracleRaceModel$State" "place" "[I", Cond.fieldLink RX4 19 "CoracleRaceModel$State" "lane" "[I"]
def wsX5_advise_r2 : List Cond := [Cond.fieldLink RX4 22 "CoracleRaceModel$State" "heads" "[I", Cond.fieldLink RX4 25 "CoracleRaceModel$State" "soaked" "[I", Cond.fieldLink RX4 28 "CoracleRaceModel$State" "fouls" "[I", Cond.fieldLink RX4 31 "CoracleRaceModel$State" "came" "[I", Cond.fieldLink RX4 34 "CoracleRaceModel$State" "spins" "[I", Cond.fieldLink RX4 37 "CoracleRaceModel$State" "stops" "[I", Cond.fieldLink RX4 40 "CoracleRaceModel$State" "length" "[I", Cond.fieldLink RX4 43 "CoracleRaceModel$State" "strokes" "[I", Cond.methodLink RX4 56 yX4_copy, Cond.instanceMethod yX4_copy, Cond.selects RX4 yX4_copy yX4_copy, Cond.code yX4_copy cX4_copy 3 none, Cond.methodLink RX4 46 arraycopyName, Cond.native arraycopyName, Cond.static arraycopyName, Cond.initialized "java/lang/System", Cond.methodLink RX5 121 yX4_go_, Cond.instanceMethod yX4_go_, Cond.selects RX4 yX4_go_ yX4_go_, Cond.code yX4_go_ cX4_go_ 2 none, Cond.fieldLink RX4 3 "CoracleRaceModel$State" "this$0" "LCoracleRaceModel;", Cond.methodLink RX4 60 yX4_isIn, Cond.instanceMethod yX4_isIn, Cond.selects RX4 yX4_isIn yX4_isIn]
def wsX5_advise_r3 : List Cond := [Cond.code yX4_isIn cX4_isIn 2 (some .boolean), Cond.methodLink RX4 115 yX4_go, Cond.instanceMethod yX4_go, Cond.selects RX4 yX4_go yX4_go, Cond.code yX4_go cX4_go 5 none, Cond.methodLink RX4 76 Lib.Math.abs.name, Cond.static Lib.Math.abs.name, Cond.initialized "java/lang/Math", Cond.code Lib.Math.abs.name Lib.Math.abs.code 1 (some .int), Cond.methodLink RX4 67 Lib.Math.min.name, Cond.static Lib.Math.min.name, Cond.code Lib.Math.min.name Lib.Math.min.code 2 (some .int), Cond.methodLink RX4 95 yX4_paddles, Cond.instanceMethod yX4_paddles, Cond.selects RX4 yX4_paddles yX4_paddles, Cond.code yX4_paddles cX4_paddles 4 (some .int), Cond.methodLink RX4 83 Lib.Math.max.name, Cond.static Lib.Math.max.name, Cond.code Lib.Math.max.name Lib.Math.max.code 2 (some .int), Cond.methodLink RX4 73 yX4_stroke, Cond.instanceMethod yX4_stroke, Cond.selects RX4 yX4_stroke yX4_stroke, Cond.code yX4_stroke cX4_stroke 3 (some .int), Cond.methodLink RX4 98 yX4_drift]
def wsX5_advise_r4 : List Cond := [Cond.instanceMethod yX4_drift, Cond.selects RX4 yX4_drift yX4_drift, Cond.code yX4_drift cX4_drift 3 none, Cond.methodLink RX4 105 yX4_stopsAt, Cond.instanceMethod yX4_stopsAt, Cond.selects RX4 yX4_stopsAt yX4_stopsAt, Cond.code yX4_stopsAt cX4_stopsAt 5 (some .int), Cond.methodLink RX4 108 yX4_soak, Cond.instanceMethod yX4_soak, Cond.selects RX4 yX4_soak yX4_soak, Cond.code yX4_soak cX4_soak 3 none]
def wsX5_advise : List Cond := .code yX5_advise cX5_advise 7 (some .int) :: ((wsX5_advise_r1 ++ (wsX5_advise_r2 ++ (wsX5_advise_r3 ++ wsX5_advise_r4))) ++ wsX50 ++ wsX40)
def wsX5_mean : List Cond := .code yX5_mean cX5_mean 3 (some .double) :: ([.fieldLink RX5 34 "CoracleRaceModel" "thrown" "I", .fieldLink RX5 38 "CoracleRaceModel" "boats" "I", .fieldLink RX5 27 "CoracleRaceModel" "s" "LCoracleRaceModel$State;"] ++ wsX50 ++ wsX40)
def wsX5_digest_r1 : List Cond := [Cond.fieldLink RX5 34 "CoracleRaceModel" "thrown" "I", Cond.constantLong RX5 128 (1163), Cond.constantLong RX5 130 (31), Cond.fieldLink RX5 27 "CoracleRaceModel" "s" "LCoracleRaceModel$State;", Cond.fieldLink RX5 7 "CoracleRaceModel" "water" "[I", Cond.fieldLink RX5 49 "CoracleRaceModel" "weirs" "I", Cond.fieldLink RX5 13 "CoracleRaceModel" "weirAt" "[I", Cond.fieldLink RX5 16 "CoracleRaceModel" "gap" "[I", Cond.fieldLink RX5 38 "CoracleRaceModel" "boats" "I", Cond.methodLink RX5 103 yX4_counted, Cond.instanceMethod yX4_counted, Cond.selects RX4 yX4_counted yX4_counted, Cond.initialized RX4, Cond.code yX4_counted cX4_counted 6 (some .int), Cond.fieldLink RX4 3 "CoracleRaceModel$State" "this$0" "LCoracleRaceModel;", Cond.fieldLink RX4 28 "CoracleRaceModel$State" "fouls" "[I", Cond.fieldLink RX4 15 "CoracleRaceModel$State" "place" "[I", Cond.arrayClass .int, Cond.fieldLink RX4 52 "CoracleRaceModel$State" "tick" "I", Cond.methodLink RX4 60 yX4_isIn, Cond.instanceMethod yX4_isIn, Cond.selects RX4 yX4_isIn yX4_isIn, Cond.code yX4_isIn cX4_isIn 2 (some .boolean), Cond.fieldLink RX4 31 "CoracleRaceModel$State" "came" "[I"]
def wsX5_digest_r2 : List Cond := [Cond.methodLink RX4 118 yX4_time, Cond.instanceMethod yX4_time, Cond.selects RX4 yX4_time yX4_time, Cond.code yX4_time cX4_time 2 (some .int), Cond.methodLink RX4 121 yX4_in, Cond.instanceMethod yX4_in, Cond.selects RX4 yX4_in yX4_in, Cond.code yX4_in cX4_in 3 (some .int), Cond.methodLink RX5 99 yX5_boatTold, Cond.instanceMethod yX5_boatTold, Cond.selects RX5 yX5_boatTold yX5_boatTold, Cond.initialized RX5, Cond.code yX5_boatTold cX5_boatTold 4 (some .int), Cond.methodLink RX5 75 yX4_isIn, Cond.methodLink RX5 90 yX4_time, Cond.methodLink RX5 132 yX4_stroke, Cond.instanceMethod yX4_stroke, Cond.selects RX4 yX4_stroke yX4_stroke, Cond.code yX4_stroke cX4_stroke 3 (some .int), Cond.fieldLink RX4 43 "CoracleRaceModel$State" "strokes" "[I", Cond.fieldLink RX4 40 "CoracleRaceModel$State" "length" "[I", Cond.methodLink RX5 114 yX5_rankOf, Cond.instanceMethod yX5_rankOf, Cond.selects RX5 yX5_rankOf yX5_rankOf]
def wsX5_digest_r3 : List Cond := [Cond.code yX5_rankOf cX5_rankOf 4 (some .int), Cond.methodLink RX5 111 yX5_isAhead, Cond.instanceMethod yX5_isAhead, Cond.selects RX5 yX5_isAhead yX5_isAhead, Cond.code yX5_isAhead cX5_isAhead 3 (some .boolean)]
def wsX5_digest : List Cond := .code yX5_digest cX5_digest 7 (some .long) :: ((wsX5_digest_r1 ++ (wsX5_digest_r2 ++ wsX5_digest_r3)) ++ wsX50 ++ wsX40)
def wsJ9_abs_0f7a4 : List Cond := .code yJ9_abs_0f7a4 cJ9_abs_0f7a4 1 (some .int) :: ([])
def wsJ9_max_7cf53 : List Cond := .code yJ9_max_7cf53 cJ9_max_7cf53 2 (some .int) :: ([])
def wsJ9_min_7cf53 : List Cond := .code yJ9_min_7cf53 cJ9_min_7cf53 2 (some .int) :: ([])
def wsL_setWater : List Cond := .codeWith yL_setWater cL_setWater 5 (some .int) [(0, 10, 13, 13), (0, 10, 17, 15)] :: ([.classLink RL 13 "java/lang/IndexOutOfBoundsException", .classLink RL 15 "java/lang/IllegalArgumentException", .methodLink RL 7 yX3_setWater, .instanceMethod yX3_setWater, .selects RX3 yX3_setWater yX3_setWater, .initialized RX3, .code yX3_setWater cX3_setWater 4 (some .int), .classLink RX3 30 "java/lang/IndexOutOfBoundsException", .initialized "java/lang/IndexOutOfBoundsException", .classLink RX3 37 "java/lang/IllegalArgumentException", .initialized "java/lang/IllegalArgumentException", .fieldLink RX3 10 "CoracleRace" "river" "LCoracleRace$River;", .fieldLink RX3 42 "CoracleRace$River" "water" "[I", .methodLink RX3 26 yX2_isLane, .static yX2_isLane, .initialized RX2, .code yX2_isLane cX2_isLane 1 (some .boolean)] ++ wsX30 ++ wsX20 ++ (vx_atS RX3 34 "java/lang/IndexOutOfBoundsException" ["java/lang/RuntimeException", "java/lang/Exception"]).filter goodWord ++ (vx_atS RX3 41 "java/lang/IllegalArgumentException" ["java/lang/RuntimeException", "java/lang/Exception"]).filter goodWord)
def wsL_weir_r1 : List Cond := [Cond.classLink RL 15 "java/lang/IllegalArgumentException", Cond.classLink RL 20 "java/lang/IllegalStateException", Cond.methodLink RL 17 yX3_weir, Cond.instanceMethod yX3_weir, Cond.selects RX3 yX3_weir yX3_weir, Cond.initialized RX3, Cond.code yX3_weir cX3_weir 3 (some .int), Cond.classLink RX3 37 "java/lang/IllegalArgumentException", Cond.initialized "java/lang/IllegalArgumentException", Cond.classLink RX3 54 "java/lang/IllegalStateException", Cond.initialized "java/lang/IllegalStateException", Cond.fieldLink RX3 10 "CoracleRace" "river" "LCoracleRace$River;", Cond.fieldLink RX3 50 "CoracleRace$River" "weirs" "I", Cond.methodLink RX3 26 yX2_isLane, Cond.static yX2_isLane, Cond.initialized RX2, Cond.code yX2_isLane cX2_isLane 1 (some .boolean), Cond.methodLink RX3 59 yX2_hasWeirAt, Cond.instanceMethod yX2_hasWeirAt, Cond.selects RX2 yX2_hasWeirAt yX2_hasWeirAt, Cond.code yX2_hasWeirAt cX2_hasWeirAt 3 (some .boolean), Cond.fieldLink RX2 19 "CoracleRace$River" "weirs" "I", Cond.fieldLink RX2 13 "CoracleRace$River" "places" "[I", Cond.methodLink RX3 64 yX2_addWeir]
def wsL_weir_r2 : List Cond := [Cond.instanceMethod yX2_addWeir, Cond.selects RX2 yX2_addWeir yX2_addWeir, Cond.code yX2_addWeir cX2_addWeir 3 none, Cond.fieldLink RX2 16 "CoracleRace$River" "gaps" "[I"]
def wsL_weir : List Cond := .codeWith yL_weir cL_weir 5 (some .int) [(0, 10, 13, 15), (0, 10, 17, 20)] :: ((wsL_weir_r1 ++ wsL_weir_r2) ++ wsX30 ++ wsX20 ++ (vx_atS RX3 41 "java/lang/IllegalArgumentException" ["java/lang/RuntimeException", "java/lang/Exception"]).filter goodWord ++ (vx_atS RX3 58 "java/lang/IllegalStateException" ["java/lang/RuntimeException", "java/lang/Exception"]).filter goodWord)
def wsL_launch_r1 : List Cond := [Cond.classLink RL 15 "java/lang/IllegalArgumentException", Cond.classLink RL 20 "java/lang/IllegalStateException", Cond.methodLink RL 22 yX3_launch, Cond.instanceMethod yX3_launch, Cond.selects RX3 yX3_launch yX3_launch, Cond.initialized RX3, Cond.code yX3_launch cX3_launch 3 (some .int), Cond.classLink RX3 37 "java/lang/IllegalArgumentException", Cond.initialized "java/lang/IllegalArgumentException", Cond.classLink RX3 54 "java/lang/IllegalStateException", Cond.initialized "java/lang/IllegalStateException", Cond.fieldLink RX3 19 "CoracleRace" "fleet" "LCoracleRace$Fleet;", Cond.fieldLink RX3 74 "CoracleRace$Fleet" "size" "I", Cond.methodLink RX3 26 yX2_isLane, Cond.static yX2_isLane, Cond.initialized RX2, Cond.code yX2_isLane cX2_isLane 1 (some .boolean), Cond.methodLink RX3 79 yX1_add, Cond.instanceMethod yX1_add, Cond.selects RX1 yX1_add yX1_add, Cond.initialized RX1, Cond.code yX1_add cX1_add 3 (some .int), Cond.fieldLink RX1 15 "CoracleRace$Fleet" "size" "I", Cond.fieldLink RX1 11 "CoracleRace$Fleet" "boats" "[LCoracleRace$Boat;"]
def wsL_launch_r2 : List Cond := [Cond.methodLink RX1 23 yX0_start, Cond.instanceMethod yX0_start, Cond.selects RX0 yX0_start yX0_start, Cond.initialized RX0, Cond.code yX0_start cX0_start 3 none, Cond.fieldLink RX0 23 "CoracleRace$Boat" "lane" "I", Cond.fieldLink RX0 17 "CoracleRace$Boat" "strength" "I", Cond.methodLink RX0 48 yX0_takePattern, Cond.instanceMethod yX0_takePattern, Cond.selects RX0 yX0_takePattern yX0_takePattern, Cond.code yX0_takePattern cX0_takePattern 5 none, Cond.fieldLink RX0 9 "CoracleRace$Boat" "strokes" "[I", Cond.fieldLink RX0 13 "CoracleRace$Boat" "length" "I"]
def wsL_launch : List Cond := .codeWith yL_launch cL_launch 5 (some .int) [(0, 10, 13, 15), (0, 10, 17, 20)] :: ((wsL_launch_r1 ++ wsL_launch_r2) ++ wsX30 ++ wsX10 ++ wsX00 ++ (vx_atS RX3 41 "java/lang/IllegalArgumentException" ["java/lang/RuntimeException", "java/lang/Exception"]).filter goodWord ++ (vx_atS RX3 58 "java/lang/IllegalStateException" ["java/lang/RuntimeException", "java/lang/Exception"]).filter goodWord)
def wsL_paddle_r1 : List Cond := [Cond.classLink RL 13 "java/lang/IndexOutOfBoundsException", Cond.classLink RL 15 "java/lang/IllegalArgumentException", Cond.methodLink RL 25 yX3_paddle, Cond.instanceMethod yX3_paddle, Cond.selects RX3 yX3_paddle yX3_paddle, Cond.initialized RX3, Cond.code yX3_paddle cX3_paddle 5 (some .int), Cond.classLink RX3 30 "java/lang/IndexOutOfBoundsException", Cond.initialized "java/lang/IndexOutOfBoundsException", Cond.classLink RX3 37 "java/lang/IllegalArgumentException", Cond.initialized "java/lang/IllegalArgumentException", Cond.fieldLink RX3 19 "CoracleRace" "fleet" "LCoracleRace$Fleet;", Cond.fieldLink RX3 96 "CoracleRace$Fleet" "boats" "[LCoracleRace$Boat;", Cond.fieldLink RX3 100 "CoracleRace$Boat" "length" "I", Cond.methodLink RX3 83 yX1_has, Cond.instanceMethod yX1_has, Cond.selects RX1 yX1_has yX1_has, Cond.initialized RX1, Cond.code yX1_has cX1_has 2 (some .boolean), Cond.fieldLink RX1 15 "CoracleRace$Fleet" "size" "I", Cond.methodLink RX3 90 yX3_isPattern, Cond.static yX3_isPattern, Cond.code yX3_isPattern cX3_isPattern 4 (some .boolean), Cond.methodLink RX3 103 yX0_takePattern]
def wsL_paddle_r2 : List Cond := [Cond.instanceMethod yX0_takePattern, Cond.selects RX0 yX0_takePattern yX0_takePattern, Cond.initialized RX0, Cond.code yX0_takePattern cX0_takePattern 5 none, Cond.fieldLink RX0 9 "CoracleRace$Boat" "strokes" "[I", Cond.fieldLink RX0 13 "CoracleRace$Boat" "length" "I"]
def wsL_paddle : List Cond := .codeWith yL_paddle cL_paddle 6 (some .int) [(0, 12, 15, 13), (0, 12, 19, 15)] :: ((wsL_paddle_r1 ++ wsL_paddle_r2) ++ wsX30 ++ wsX10 ++ wsX00 ++ (vx_atS RX3 34 "java/lang/IndexOutOfBoundsException" ["java/lang/RuntimeException", "java/lang/Exception"]).filter goodWord ++ (vx_atS RX3 41 "java/lang/IllegalArgumentException" ["java/lang/RuntimeException", "java/lang/Exception"]).filter goodWord)
def wsL_tar_r1 : List Cond := [Cond.classLink RL 13 "java/lang/IndexOutOfBoundsException", Cond.classLink RL 20 "java/lang/IllegalStateException", Cond.methodLink RL 29 yX3_tar, Cond.instanceMethod yX3_tar, Cond.selects RX3 yX3_tar yX3_tar, Cond.initialized RX3, Cond.code yX3_tar cX3_tar 2 (some .int), Cond.classLink RX3 30 "java/lang/IndexOutOfBoundsException", Cond.initialized "java/lang/IndexOutOfBoundsException", Cond.classLink RX3 54 "java/lang/IllegalStateException", Cond.initialized "java/lang/IllegalStateException", Cond.fieldLink RX3 19 "CoracleRace" "fleet" "LCoracleRace$Fleet;", Cond.fieldLink RX3 96 "CoracleRace$Fleet" "boats" "[LCoracleRace$Boat;", Cond.methodLink RX3 83 yX1_has, Cond.instanceMethod yX1_has, Cond.selects RX1 yX1_has yX1_has, Cond.initialized RX1, Cond.code yX1_has cX1_has 2 (some .boolean), Cond.fieldLink RX1 15 "CoracleRace$Fleet" "size" "I", Cond.methodLink RX3 106 yX0_isIn, Cond.instanceMethod yX0_isIn, Cond.selects RX0 yX0_isIn yX0_isIn, Cond.initialized RX0, Cond.code yX0_isIn cX0_isIn 1 (some .boolean)]
def wsL_tar_r2 : List Cond := [Cond.fieldLink RX0 35 "CoracleRace$Boat" "in" "Z", Cond.methodLink RX3 112 yX0_dryOut, Cond.instanceMethod yX0_dryOut, Cond.selects RX0 yX0_dryOut yX0_dryOut, Cond.code yX0_dryOut cX0_dryOut 2 (some .int), Cond.fieldLink RX0 29 "CoracleRace$Boat" "soaked" "I", Cond.fieldLink RX0 32 "CoracleRace$Boat" "fouls" "I"]
def wsL_tar : List Cond := .codeWith yL_tar cL_tar 4 (some .int) [(0, 9, 12, 13), (0, 9, 15, 20)] :: ((wsL_tar_r1 ++ wsL_tar_r2) ++ wsX30 ++ wsX10 ++ wsX00 ++ (vx_atS RX3 34 "java/lang/IndexOutOfBoundsException" ["java/lang/RuntimeException", "java/lang/Exception"]).filter goodWord ++ (vx_atS RX3 58 "java/lang/IllegalStateException" ["java/lang/RuntimeException", "java/lang/Exception"]).filter goodWord)
def wsL_boat_r1 : List Cond := [Cond.classLink RL 13 "java/lang/IndexOutOfBoundsException", Cond.methodLink RL 33 yX3_boat, Cond.instanceMethod yX3_boat, Cond.selects RX3 yX3_boat yX3_boat, Cond.initialized RX3, Cond.code yX3_boat cX3_boat 3 (some .int), Cond.classLink RX3 30 "java/lang/IndexOutOfBoundsException", Cond.initialized "java/lang/IndexOutOfBoundsException", Cond.fieldLink RX3 19 "CoracleRace" "fleet" "LCoracleRace$Fleet;", Cond.fieldLink RX3 96 "CoracleRace$Fleet" "boats" "[LCoracleRace$Boat;", Cond.methodLink RX3 83 yX1_has, Cond.instanceMethod yX1_has, Cond.selects RX1 yX1_has yX1_has, Cond.initialized RX1, Cond.code yX1_has cX1_has 2 (some .boolean), Cond.fieldLink RX1 15 "CoracleRace$Fleet" "size" "I", Cond.methodLink RX3 118 yX0_fact, Cond.instanceMethod yX0_fact, Cond.selects RX0 yX0_fact yX0_fact, Cond.initialized RX0, Cond.code yX0_fact cX0_fact 2 (some .int), Cond.fieldLink RX0 20 "CoracleRace$Boat" "place" "I", Cond.fieldLink RX0 23 "CoracleRace$Boat" "lane" "I", Cond.fieldLink RX0 26 "CoracleRace$Boat" "heading" "I"]
def wsL_boat_r2 : List Cond := [Cond.fieldLink RX0 29 "CoracleRace$Boat" "soaked" "I", Cond.fieldLink RX0 32 "CoracleRace$Boat" "fouls" "I", Cond.fieldLink RX0 35 "CoracleRace$Boat" "in" "Z", Cond.fieldLink RX0 42 "CoracleRace$Boat" "spins" "I", Cond.fieldLink RX0 45 "CoracleRace$Boat" "stops" "I", Cond.methodLink RX0 58 yX0_time, Cond.instanceMethod yX0_time, Cond.selects RX0 yX0_time yX0_time, Cond.code yX0_time cX0_time 1 (some .int), Cond.fieldLink RX0 39 "CoracleRace$Boat" "tickIn" "I"]
def wsL_boat : List Cond := .codeWith yL_boat cL_boat 5 (some .int) [(0, 10, 13, 13)] :: ((wsL_boat_r1 ++ wsL_boat_r2) ++ wsX30 ++ wsX10 ++ wsX00 ++ (vx_atS RX3 34 "java/lang/IndexOutOfBoundsException" ["java/lang/RuntimeException", "java/lang/Exception"]).filter goodWord)
def wsL_count_r1 : List Cond := [Cond.classLink RL 13 "java/lang/IndexOutOfBoundsException", Cond.methodLink RL 36 yX3_count, Cond.instanceMethod yX3_count, Cond.selects RX3 yX3_count yX3_count, Cond.initialized RX3, Cond.code yX3_count cX3_count 2 (some .int), Cond.classLink RX3 30 "java/lang/IndexOutOfBoundsException", Cond.initialized "java/lang/IndexOutOfBoundsException", Cond.fieldLink RX3 19 "CoracleRace" "fleet" "LCoracleRace$Fleet;", Cond.methodLink RX3 124 yX3_countIn, Cond.instanceMethod yX3_countIn, Cond.selects RX3 yX3_countIn yX3_countIn, Cond.code yX3_countIn cX3_countIn 3 (some .int), Cond.fieldLink RX3 150 "CoracleRace$Fleet" "tick" "I", Cond.fieldLink RX3 74 "CoracleRace$Fleet" "size" "I", Cond.fieldLink RX3 10 "CoracleRace" "river" "LCoracleRace$River;", Cond.fieldLink RX3 50 "CoracleRace$River" "weirs" "I", Cond.methodLink RX3 139 yX1_boatsIn, Cond.instanceMethod yX1_boatsIn, Cond.selects RX1 yX1_boatsIn yX1_boatsIn, Cond.initialized RX1, Cond.code yX1_boatsIn cX1_boatsIn 3 (some .int), Cond.fieldLink RX1 15 "CoracleRace$Fleet" "size" "I", Cond.fieldLink RX1 11 "CoracleRace$Fleet" "boats" "[LCoracleRace$Boat;"]
def wsL_count_r2 : List Cond := [Cond.methodLink RX1 35 yX0_isIn, Cond.instanceMethod yX0_isIn, Cond.selects RX0 yX0_isIn yX0_isIn, Cond.initialized RX0, Cond.code yX0_isIn cX0_isIn 1 (some .boolean), Cond.fieldLink RX0 35 "CoracleRace$Boat" "in" "Z", Cond.methodLink RX3 187 yX1_foulsAdded, Cond.instanceMethod yX1_foulsAdded, Cond.selects RX1 yX1_foulsAdded yX1_foulsAdded, Cond.code yX1_foulsAdded cX1_foulsAdded 3 (some .int), Cond.fieldLink RX1 39 "CoracleRace$Boat" "fouls" "I", Cond.methodLink RX3 190 yX1_leader, Cond.instanceMethod yX1_leader, Cond.selects RX1 yX1_leader yX1_leader, Cond.code yX1_leader cX1_leader 4 (some .int), Cond.fieldLink RX1 42 "CoracleRace$Boat" "place" "I", Cond.methodLink RX3 193 yX1_winner, Cond.instanceMethod yX1_winner, Cond.selects RX1 yX1_winner yX1_winner, Cond.code yX1_winner cX1_winner 4 (some .int), Cond.methodLink RX1 45 yX0_time, Cond.instanceMethod yX0_time, Cond.selects RX0 yX0_time yX0_time, Cond.code yX0_time cX0_time 1 (some .int)]
def wsL_count_r3 : List Cond := [Cond.fieldLink RX0 39 "CoracleRace$Boat" "tickIn" "I", Cond.fieldLink RX0 32 "CoracleRace$Boat" "fouls" "I"]
def wsL_count : List Cond := .codeWith yL_count cL_count 4 (some .int) [(0, 9, 12, 13)] :: ((wsL_count_r1 ++ (wsL_count_r2 ++ wsL_count_r3)) ++ wsX30 ++ wsX10 ++ wsX20 ++ wsX00 ++ (vx_atS RX3 34 "java/lang/IndexOutOfBoundsException" ["java/lang/RuntimeException", "java/lang/Exception"]).filter goodWord)
def wsL_next : List Cond := .codeWith yL_next cL_next 4 (some .int) [(0, 9, 12, 15)] :: ([.classLink RL 15 "java/lang/IllegalArgumentException", .methodLink RL 39 yX3_next, .instanceMethod yX3_next, .selects RX3 yX3_next yX3_next, .initialized RX3, .code yX3_next cX3_next 2 (some .int), .classLink RX3 37 "java/lang/IllegalArgumentException", .initialized "java/lang/IllegalArgumentException", .fieldLink RX3 10 "CoracleRace" "river" "LCoracleRace$River;", .methodLink RX3 130 yX2_firstWeirBeyond, .instanceMethod yX2_firstWeirBeyond, .selects RX2 yX2_firstWeirBeyond yX2_firstWeirBeyond, .initialized RX2, .code yX2_firstWeirBeyond cX2_firstWeirBeyond 4 (some .int), .fieldLink RX2 19 "CoracleRace$River" "weirs" "I", .fieldLink RX2 13 "CoracleRace$River" "places" "[I"] ++ wsX30 ++ wsX20 ++ (vx_atS RX3 41 "java/lang/IllegalArgumentException" ["java/lang/RuntimeException", "java/lang/Exception"]).filter goodWord)
def wsL_rank_r1 : List Cond := [Cond.classLink RL 13 "java/lang/IndexOutOfBoundsException", Cond.methodLink RL 42 yX3_rank, Cond.instanceMethod yX3_rank, Cond.selects RX3 yX3_rank yX3_rank, Cond.initialized RX3, Cond.code yX3_rank cX3_rank 2 (some .int), Cond.classLink RX3 30 "java/lang/IndexOutOfBoundsException", Cond.initialized "java/lang/IndexOutOfBoundsException", Cond.fieldLink RX3 19 "CoracleRace" "fleet" "LCoracleRace$Fleet;", Cond.fieldLink RX3 96 "CoracleRace$Fleet" "boats" "[LCoracleRace$Boat;", Cond.methodLink RX3 83 yX1_has, Cond.instanceMethod yX1_has, Cond.selects RX1 yX1_has yX1_has, Cond.initialized RX1, Cond.code yX1_has cX1_has 2 (some .boolean), Cond.fieldLink RX1 15 "CoracleRace$Fleet" "size" "I", Cond.methodLink RX3 133 yX1_rankOf, Cond.instanceMethod yX1_rankOf, Cond.selects RX1 yX1_rankOf yX1_rankOf, Cond.code yX1_rankOf cX1_rankOf 4 (some .int), Cond.fieldLink RX1 11 "CoracleRace$Fleet" "boats" "[LCoracleRace$Boat;", Cond.methodLink RX1 49 yX0_isAheadOf, Cond.instanceMethod yX0_isAheadOf, Cond.selects RX0 yX0_isAheadOf yX0_isAheadOf]
def wsL_rank_r2 : List Cond := [Cond.initialized RX0, Cond.code yX0_isAheadOf cX0_isAheadOf 2 (some .boolean), Cond.fieldLink RX0 35 "CoracleRace$Boat" "in" "Z", Cond.fieldLink RX0 20 "CoracleRace$Boat" "place" "I", Cond.methodLink RX0 58 yX0_time, Cond.instanceMethod yX0_time, Cond.selects RX0 yX0_time yX0_time, Cond.code yX0_time cX0_time 1 (some .int), Cond.fieldLink RX0 39 "CoracleRace$Boat" "tickIn" "I", Cond.fieldLink RX0 32 "CoracleRace$Boat" "fouls" "I"]
def wsL_rank : List Cond := .codeWith yL_rank cL_rank 4 (some .int) [(0, 9, 12, 13)] :: ((wsL_rank_r1 ++ wsL_rank_r2) ++ wsX30 ++ wsX10 ++ wsX00 ++ (vx_atS RX3 34 "java/lang/IndexOutOfBoundsException" ["java/lang/RuntimeException", "java/lang/Exception"]).filter goodWord)
def wsL_go_r1 : List Cond := [Cond.classLink RL 15 "java/lang/IllegalArgumentException", Cond.methodLink RL 45 yX3_go, Cond.instanceMethod yX3_go, Cond.selects RX3 yX3_go yX3_go, Cond.initialized RX3, Cond.code yX3_go cX3_go 3 (some .int), Cond.classLink RX3 37 "java/lang/IllegalArgumentException", Cond.initialized "java/lang/IllegalArgumentException", Cond.fieldLink RX3 19 "CoracleRace" "fleet" "LCoracleRace$Fleet;", Cond.fieldLink RX3 10 "CoracleRace" "river" "LCoracleRace$River;", Cond.methodLink RX3 139 yX1_boatsIn, Cond.instanceMethod yX1_boatsIn, Cond.selects RX1 yX1_boatsIn yX1_boatsIn, Cond.initialized RX1, Cond.code yX1_boatsIn cX1_boatsIn 3 (some .int), Cond.fieldLink RX1 15 "CoracleRace$Fleet" "size" "I", Cond.fieldLink RX1 11 "CoracleRace$Fleet" "boats" "[LCoracleRace$Boat;", Cond.methodLink RX1 35 yX0_isIn, Cond.instanceMethod yX0_isIn, Cond.selects RX0 yX0_isIn yX0_isIn, Cond.initialized RX0, Cond.code yX0_isIn cX0_isIn 1 (some .boolean), Cond.fieldLink RX0 35 "CoracleRace$Boat" "in" "Z", Cond.methodLink RX3 142 yX1_letTicksGoBy]
def wsL_go_r2 : List Cond := [Cond.instanceMethod yX1_letTicksGoBy, Cond.selects RX1 yX1_letTicksGoBy yX1_letTicksGoBy, Cond.code yX1_letTicksGoBy cX1_letTicksGoBy 5 none, Cond.fieldLink RX1 19 "CoracleRace$Fleet" "tick" "I", Cond.methodLink RX1 31 yX0_letTickGoBy, Cond.instanceMethod yX0_letTickGoBy, Cond.selects RX0 yX0_letTickGoBy yX0_letTickGoBy, Cond.code yX0_letTickGoBy cX0_letTickGoBy 4 none, Cond.fieldLink RX0 20 "CoracleRace$Boat" "place" "I", Cond.fieldLink RX0 39 "CoracleRace$Boat" "tickIn" "I", Cond.methodLink RX0 62 yX0_strokeIn, Cond.instanceMethod yX0_strokeIn, Cond.selects RX0 yX0_strokeIn yX0_strokeIn, Cond.code yX0_strokeIn cX0_strokeIn 2 (some .int), Cond.fieldLink RX0 13 "CoracleRace$Boat" "length" "I", Cond.fieldLink RX0 9 "CoracleRace$Boat" "strokes" "[I", Cond.methodLink RX0 82 yJ9_floorMod_7cf53, Cond.static yJ9_floorMod_7cf53, Cond.initialized RJ9, Cond.code yJ9_floorMod_7cf53 cJ9_floorMod_7cf53 3 (some .int), Cond.methodLink RX0 66 yX0_forceOf, Cond.instanceMethod yX0_forceOf, Cond.selects RX0 yX0_forceOf yX0_forceOf, Cond.code yX0_forceOf cX0_forceOf 2 (some .int)]
def wsL_go_r3 : List Cond := [Cond.fieldLink RX0 26 "CoracleRace$Boat" "heading" "I", Cond.fieldLink RX0 42 "CoracleRace$Boat" "spins" "I", Cond.fieldLink RX0 29 "CoracleRace$Boat" "soaked" "I", Cond.methodLink RX0 91 Lib.Math.max.name, Cond.static Lib.Math.max.name, Cond.initialized "java/lang/Math", Cond.code Lib.Math.max.name Lib.Math.max.code 2 (some .int), Cond.methodLink RX0 88 yX0_pushOf, Cond.instanceMethod yX0_pushOf, Cond.selects RX0 yX0_pushOf yX0_pushOf, Cond.code yX0_pushOf cX0_pushOf 2 (some .int), Cond.fieldLink RX0 17 "CoracleRace$Boat" "strength" "I", Cond.methodLink RX0 69 yX0_drift, Cond.instanceMethod yX0_drift, Cond.selects RX0 yX0_drift yX0_drift, Cond.code yX0_drift cX0_drift 2 none, Cond.fieldLink RX0 23 "CoracleRace$Boat" "lane" "I", Cond.fieldLink RX0 32 "CoracleRace$Boat" "fouls" "I", Cond.methodLink RX0 94 yX2_isLane, Cond.static yX2_isLane, Cond.initialized RX2, Cond.code yX2_isLane cX2_isLane 1 (some .boolean), Cond.methodLink RX0 72 yX0_advance, Cond.instanceMethod yX0_advance]
def wsL_go_r4 : List Cond := [Cond.selects RX0 yX0_advance yX0_advance, Cond.code yX0_advance cX0_advance 5 none, Cond.methodLink RX0 98 Lib.Math.abs.name, Cond.static Lib.Math.abs.name, Cond.code Lib.Math.abs.name Lib.Math.abs.code 1 (some .int), Cond.fieldLink RX0 101 "CoracleRace$River" "water" "[I", Cond.methodLink RX0 108 Lib.Math.min.name, Cond.static Lib.Math.min.name, Cond.code Lib.Math.min.name Lib.Math.min.code 2 (some .int), Cond.fieldLink RX0 45 "CoracleRace$Boat" "stops" "I", Cond.methodLink RX0 104 yX2_firstStop, Cond.instanceMethod yX2_firstStop, Cond.selects RX2 yX2_firstStop yX2_firstStop, Cond.code yX2_firstStop cX2_firstStop 7 (some .int), Cond.fieldLink RX2 19 "CoracleRace$River" "weirs" "I", Cond.fieldLink RX2 13 "CoracleRace$River" "places" "[I", Cond.fieldLink RX2 16 "CoracleRace$River" "gaps" "[I", Cond.methodLink RX0 76 yX0_soak, Cond.instanceMethod yX0_soak, Cond.selects RX0 yX0_soak yX0_soak, Cond.code yX0_soak cX0_soak 2 none]
def wsL_go : List Cond := .codeWith yL_go cL_go 4 (some .int) [(0, 9, 12, 15)] :: ((wsL_go_r1 ++ (wsL_go_r2 ++ (wsL_go_r3 ++ wsL_go_r4))) ++ wsX30 ++ wsX10 ++ wsX00 ++ wsX20 ++ (vx_atS RX3 41 "java/lang/IllegalArgumentException" ["java/lang/RuntimeException", "java/lang/Exception"]).filter goodWord)
def wsL_arrives_r1 : List Cond := [Cond.classLink RL 13 "java/lang/IndexOutOfBoundsException", Cond.methodLink RL 48 yX3_arrives, Cond.instanceMethod yX3_arrives, Cond.selects RX3 yX3_arrives yX3_arrives, Cond.initialized RX3, Cond.code yX3_arrives cX3_arrives 4 (some .int), Cond.classLink RX3 30 "java/lang/IndexOutOfBoundsException", Cond.initialized "java/lang/IndexOutOfBoundsException", Cond.fieldLink RX3 19 "CoracleRace" "fleet" "LCoracleRace$Fleet;", Cond.fieldLink RX3 23 "CoracleRace" "trial" "LCoracleRace$Fleet;", Cond.fieldLink RX3 96 "CoracleRace$Fleet" "boats" "[LCoracleRace$Boat;", Cond.fieldLink RX3 10 "CoracleRace" "river" "LCoracleRace$River;", Cond.fieldLink RX3 150 "CoracleRace$Fleet" "tick" "I", Cond.methodLink RX3 83 yX1_has, Cond.instanceMethod yX1_has, Cond.selects RX1 yX1_has yX1_has, Cond.initialized RX1, Cond.code yX1_has cX1_has 2 (some .boolean), Cond.fieldLink RX1 15 "CoracleRace$Fleet" "size" "I", Cond.methodLink RX3 146 yX0_copyFrom, Cond.instanceMethod yX0_copyFrom, Cond.selects RX0 yX0_copyFrom yX0_copyFrom, Cond.initialized RX0, Cond.code yX0_copyFrom cX0_copyFrom 2 none]
def wsL_arrives_r2 : List Cond := [Cond.fieldLink RX0 9 "CoracleRace$Boat" "strokes" "[I", Cond.methodLink RX0 52 arraycopyName, Cond.native arraycopyName, Cond.static arraycopyName, Cond.initialized "java/lang/System", Cond.fieldLink RX0 13 "CoracleRace$Boat" "length" "I", Cond.fieldLink RX0 17 "CoracleRace$Boat" "strength" "I", Cond.fieldLink RX0 20 "CoracleRace$Boat" "place" "I", Cond.fieldLink RX0 23 "CoracleRace$Boat" "lane" "I", Cond.fieldLink RX0 26 "CoracleRace$Boat" "heading" "I", Cond.fieldLink RX0 29 "CoracleRace$Boat" "soaked" "I", Cond.fieldLink RX0 32 "CoracleRace$Boat" "fouls" "I", Cond.fieldLink RX0 35 "CoracleRace$Boat" "in" "Z", Cond.fieldLink RX0 39 "CoracleRace$Boat" "tickIn" "I", Cond.fieldLink RX0 42 "CoracleRace$Boat" "spins" "I", Cond.fieldLink RX0 45 "CoracleRace$Boat" "stops" "I", Cond.methodLink RX3 106 yX0_isIn, Cond.instanceMethod yX0_isIn, Cond.selects RX0 yX0_isIn yX0_isIn, Cond.code yX0_isIn cX0_isIn 1 (some .boolean), Cond.methodLink RX3 153 yX0_letTickGoBy, Cond.instanceMethod yX0_letTickGoBy, Cond.selects RX0 yX0_letTickGoBy yX0_letTickGoBy, Cond.code yX0_letTickGoBy cX0_letTickGoBy 4 none]
def wsL_arrives_r3 : List Cond := [Cond.methodLink RX0 62 yX0_strokeIn, Cond.instanceMethod yX0_strokeIn, Cond.selects RX0 yX0_strokeIn yX0_strokeIn, Cond.code yX0_strokeIn cX0_strokeIn 2 (some .int), Cond.methodLink RX0 82 yJ9_floorMod_7cf53, Cond.static yJ9_floorMod_7cf53, Cond.initialized RJ9, Cond.code yJ9_floorMod_7cf53 cJ9_floorMod_7cf53 3 (some .int), Cond.methodLink RX0 66 yX0_forceOf, Cond.instanceMethod yX0_forceOf, Cond.selects RX0 yX0_forceOf yX0_forceOf, Cond.code yX0_forceOf cX0_forceOf 2 (some .int), Cond.methodLink RX0 91 Lib.Math.max.name, Cond.static Lib.Math.max.name, Cond.initialized "java/lang/Math", Cond.code Lib.Math.max.name Lib.Math.max.code 2 (some .int), Cond.methodLink RX0 88 yX0_pushOf, Cond.instanceMethod yX0_pushOf, Cond.selects RX0 yX0_pushOf yX0_pushOf, Cond.code yX0_pushOf cX0_pushOf 2 (some .int), Cond.methodLink RX0 69 yX0_drift, Cond.instanceMethod yX0_drift, Cond.selects RX0 yX0_drift yX0_drift, Cond.code yX0_drift cX0_drift 2 none]
def wsL_arrives_r4 : List Cond := [Cond.methodLink RX0 94 yX2_isLane, Cond.static yX2_isLane, Cond.initialized RX2, Cond.code yX2_isLane cX2_isLane 1 (some .boolean), Cond.methodLink RX0 72 yX0_advance, Cond.instanceMethod yX0_advance, Cond.selects RX0 yX0_advance yX0_advance, Cond.code yX0_advance cX0_advance 5 none, Cond.methodLink RX0 98 Lib.Math.abs.name, Cond.static Lib.Math.abs.name, Cond.code Lib.Math.abs.name Lib.Math.abs.code 1 (some .int), Cond.fieldLink RX0 101 "CoracleRace$River" "water" "[I", Cond.methodLink RX0 108 Lib.Math.min.name, Cond.static Lib.Math.min.name, Cond.code Lib.Math.min.name Lib.Math.min.code 2 (some .int), Cond.methodLink RX0 104 yX2_firstStop, Cond.instanceMethod yX2_firstStop, Cond.selects RX2 yX2_firstStop yX2_firstStop, Cond.code yX2_firstStop cX2_firstStop 7 (some .int), Cond.fieldLink RX2 19 "CoracleRace$River" "weirs" "I", Cond.fieldLink RX2 13 "CoracleRace$River" "places" "[I", Cond.fieldLink RX2 16 "CoracleRace$River" "gaps" "[I", Cond.methodLink RX0 76 yX0_soak, Cond.instanceMethod yX0_soak]
def wsL_arrives_r5 : List Cond := [Cond.selects RX0 yX0_soak yX0_soak, Cond.code yX0_soak cX0_soak 2 none]
def wsL_arrives : List Cond := .codeWith yL_arrives cL_arrives 4 (some .int) [(0, 9, 12, 13)] :: ((wsL_arrives_r1 ++ (wsL_arrives_r2 ++ (wsL_arrives_r3 ++ (wsL_arrives_r4 ++ wsL_arrives_r5)))) ++ wsX30 ++ wsX10 ++ wsX00 ++ wsX20 ++ (vx_atS RX3 34 "java/lang/IndexOutOfBoundsException" ["java/lang/RuntimeException", "java/lang/Exception"]).filter goodWord)
def wsL_foresee_r1 : List Cond := [Cond.classLink RL 15 "java/lang/IllegalArgumentException", Cond.classLink RL 13 "java/lang/IndexOutOfBoundsException", Cond.methodLink RL 51 yX3_foresee, Cond.instanceMethod yX3_foresee, Cond.selects RX3 yX3_foresee yX3_foresee, Cond.initialized RX3, Cond.code yX3_foresee cX3_foresee 3 (some .int), Cond.classLink RX3 37 "java/lang/IllegalArgumentException", Cond.initialized "java/lang/IllegalArgumentException", Cond.classLink RX3 30 "java/lang/IndexOutOfBoundsException", Cond.initialized "java/lang/IndexOutOfBoundsException", Cond.fieldLink RX3 23 "CoracleRace" "trial" "LCoracleRace$Fleet;", Cond.fieldLink RX3 19 "CoracleRace" "fleet" "LCoracleRace$Fleet;", Cond.fieldLink RX3 10 "CoracleRace" "river" "LCoracleRace$River;", Cond.methodLink RX3 158 yX1_copyFrom, Cond.instanceMethod yX1_copyFrom, Cond.selects RX1 yX1_copyFrom yX1_copyFrom, Cond.initialized RX1, Cond.code yX1_copyFrom cX1_copyFrom 3 none, Cond.fieldLink RX1 15 "CoracleRace$Fleet" "size" "I", Cond.fieldLink RX1 19 "CoracleRace$Fleet" "tick" "I", Cond.fieldLink RX1 11 "CoracleRace$Fleet" "boats" "[LCoracleRace$Boat;", Cond.methodLink RX1 27 yX0_copyFrom, Cond.instanceMethod yX0_copyFrom]
def wsL_foresee_r2 : List Cond := [Cond.selects RX0 yX0_copyFrom yX0_copyFrom, Cond.initialized RX0, Cond.code yX0_copyFrom cX0_copyFrom 2 none, Cond.fieldLink RX0 9 "CoracleRace$Boat" "strokes" "[I", Cond.methodLink RX0 52 arraycopyName, Cond.native arraycopyName, Cond.static arraycopyName, Cond.initialized "java/lang/System", Cond.fieldLink RX0 13 "CoracleRace$Boat" "length" "I", Cond.fieldLink RX0 17 "CoracleRace$Boat" "strength" "I", Cond.fieldLink RX0 20 "CoracleRace$Boat" "place" "I", Cond.fieldLink RX0 23 "CoracleRace$Boat" "lane" "I", Cond.fieldLink RX0 26 "CoracleRace$Boat" "heading" "I", Cond.fieldLink RX0 29 "CoracleRace$Boat" "soaked" "I", Cond.fieldLink RX0 32 "CoracleRace$Boat" "fouls" "I", Cond.fieldLink RX0 35 "CoracleRace$Boat" "in" "Z", Cond.fieldLink RX0 39 "CoracleRace$Boat" "tickIn" "I", Cond.fieldLink RX0 42 "CoracleRace$Boat" "spins" "I", Cond.fieldLink RX0 45 "CoracleRace$Boat" "stops" "I", Cond.methodLink RX3 142 yX1_letTicksGoBy, Cond.instanceMethod yX1_letTicksGoBy, Cond.selects RX1 yX1_letTicksGoBy yX1_letTicksGoBy, Cond.code yX1_letTicksGoBy cX1_letTicksGoBy 5 none, Cond.methodLink RX1 31 yX0_letTickGoBy]
def wsL_foresee_r3 : List Cond := [Cond.instanceMethod yX0_letTickGoBy, Cond.selects RX0 yX0_letTickGoBy yX0_letTickGoBy, Cond.code yX0_letTickGoBy cX0_letTickGoBy 4 none, Cond.methodLink RX0 62 yX0_strokeIn, Cond.instanceMethod yX0_strokeIn, Cond.selects RX0 yX0_strokeIn yX0_strokeIn, Cond.code yX0_strokeIn cX0_strokeIn 2 (some .int), Cond.methodLink RX0 82 yJ9_floorMod_7cf53, Cond.static yJ9_floorMod_7cf53, Cond.initialized RJ9, Cond.code yJ9_floorMod_7cf53 cJ9_floorMod_7cf53 3 (some .int), Cond.methodLink RX0 66 yX0_forceOf, Cond.instanceMethod yX0_forceOf, Cond.selects RX0 yX0_forceOf yX0_forceOf, Cond.code yX0_forceOf cX0_forceOf 2 (some .int), Cond.methodLink RX0 91 Lib.Math.max.name, Cond.static Lib.Math.max.name, Cond.initialized "java/lang/Math", Cond.code Lib.Math.max.name Lib.Math.max.code 2 (some .int), Cond.methodLink RX0 88 yX0_pushOf, Cond.instanceMethod yX0_pushOf, Cond.selects RX0 yX0_pushOf yX0_pushOf, Cond.code yX0_pushOf cX0_pushOf 2 (some .int), Cond.methodLink RX0 69 yX0_drift]
def wsL_foresee_r4 : List Cond := [Cond.instanceMethod yX0_drift, Cond.selects RX0 yX0_drift yX0_drift, Cond.code yX0_drift cX0_drift 2 none, Cond.methodLink RX0 94 yX2_isLane, Cond.static yX2_isLane, Cond.initialized RX2, Cond.code yX2_isLane cX2_isLane 1 (some .boolean), Cond.methodLink RX0 72 yX0_advance, Cond.instanceMethod yX0_advance, Cond.selects RX0 yX0_advance yX0_advance, Cond.code yX0_advance cX0_advance 5 none, Cond.methodLink RX0 98 Lib.Math.abs.name, Cond.static Lib.Math.abs.name, Cond.code Lib.Math.abs.name Lib.Math.abs.code 1 (some .int), Cond.fieldLink RX0 101 "CoracleRace$River" "water" "[I", Cond.methodLink RX0 108 Lib.Math.min.name, Cond.static Lib.Math.min.name, Cond.code Lib.Math.min.name Lib.Math.min.code 2 (some .int), Cond.methodLink RX0 104 yX2_firstStop, Cond.instanceMethod yX2_firstStop, Cond.selects RX2 yX2_firstStop yX2_firstStop, Cond.code yX2_firstStop cX2_firstStop 7 (some .int), Cond.fieldLink RX2 19 "CoracleRace$River" "weirs" "I", Cond.fieldLink RX2 13 "CoracleRace$River" "places" "[I"]
def wsL_foresee_r5 : List Cond := [Cond.fieldLink RX2 16 "CoracleRace$River" "gaps" "[I", Cond.methodLink RX0 76 yX0_soak, Cond.instanceMethod yX0_soak, Cond.selects RX0 yX0_soak yX0_soak, Cond.code yX0_soak cX0_soak 2 none, Cond.methodLink RX3 124 yX3_countIn, Cond.instanceMethod yX3_countIn, Cond.selects RX3 yX3_countIn yX3_countIn, Cond.code yX3_countIn cX3_countIn 3 (some .int), Cond.fieldLink RX3 150 "CoracleRace$Fleet" "tick" "I", Cond.fieldLink RX3 74 "CoracleRace$Fleet" "size" "I", Cond.fieldLink RX3 50 "CoracleRace$River" "weirs" "I", Cond.methodLink RX3 139 yX1_boatsIn, Cond.instanceMethod yX1_boatsIn, Cond.selects RX1 yX1_boatsIn yX1_boatsIn, Cond.code yX1_boatsIn cX1_boatsIn 3 (some .int), Cond.methodLink RX1 35 yX0_isIn, Cond.instanceMethod yX0_isIn, Cond.selects RX0 yX0_isIn yX0_isIn, Cond.code yX0_isIn cX0_isIn 1 (some .boolean), Cond.methodLink RX3 187 yX1_foulsAdded, Cond.instanceMethod yX1_foulsAdded, Cond.selects RX1 yX1_foulsAdded yX1_foulsAdded, Cond.code yX1_foulsAdded cX1_foulsAdded 3 (some .int)]
def wsL_foresee_r6 : List Cond := [Cond.fieldLink RX1 39 "CoracleRace$Boat" "fouls" "I", Cond.methodLink RX3 190 yX1_leader, Cond.instanceMethod yX1_leader, Cond.selects RX1 yX1_leader yX1_leader, Cond.code yX1_leader cX1_leader 4 (some .int), Cond.fieldLink RX1 42 "CoracleRace$Boat" "place" "I", Cond.methodLink RX3 193 yX1_winner, Cond.instanceMethod yX1_winner, Cond.selects RX1 yX1_winner yX1_winner, Cond.code yX1_winner cX1_winner 4 (some .int), Cond.methodLink RX1 45 yX0_time, Cond.instanceMethod yX0_time, Cond.selects RX0 yX0_time yX0_time, Cond.code yX0_time cX0_time 1 (some .int)]
def wsL_foresee : List Cond := .codeWith yL_foresee cL_foresee 5 (some .int) [(0, 10, 13, 15), (0, 10, 17, 13)] :: ((wsL_foresee_r1 ++ (wsL_foresee_r2 ++ (wsL_foresee_r3 ++ (wsL_foresee_r4 ++ (wsL_foresee_r5 ++ wsL_foresee_r6))))) ++ wsX30 ++ wsX10 ++ wsX00 ++ wsX20 ++ (vx_atS RX3 41 "java/lang/IllegalArgumentException" ["java/lang/RuntimeException", "java/lang/Exception"]).filter goodWord ++ (vx_atS RX3 34 "java/lang/IndexOutOfBoundsException" ["java/lang/RuntimeException", "java/lang/Exception"]).filter goodWord)
def wsL_advise_r1 : List Cond := [Cond.classLink RL 13 "java/lang/IndexOutOfBoundsException", Cond.classLink RL 15 "java/lang/IllegalArgumentException", Cond.methodLink RL 54 yX3_advise, Cond.instanceMethod yX3_advise, Cond.selects RX3 yX3_advise yX3_advise, Cond.initialized RX3, Cond.code yX3_advise cX3_advise 9 (some .int), Cond.classLink RX3 30 "java/lang/IndexOutOfBoundsException", Cond.initialized "java/lang/IndexOutOfBoundsException", Cond.classLink RX3 37 "java/lang/IllegalArgumentException", Cond.initialized "java/lang/IllegalArgumentException", Cond.fieldLink RX3 19 "CoracleRace" "fleet" "LCoracleRace$Fleet;", Cond.methodLink RX3 83 yX1_has, Cond.instanceMethod yX1_has, Cond.selects RX1 yX1_has yX1_has, Cond.initialized RX1, Cond.code yX1_has cX1_has 2 (some .boolean), Cond.fieldLink RX1 15 "CoracleRace$Fleet" "size" "I", Cond.methodLink RX3 163 yX3_placeWith, Cond.instanceMethod yX3_placeWith, Cond.selects RX3 yX3_placeWith yX3_placeWith, Cond.code yX3_placeWith cX3_placeWith 6 (some .int), Cond.fieldLink RX3 23 "CoracleRace" "trial" "LCoracleRace$Fleet;", Cond.fieldLink RX3 96 "CoracleRace$Fleet" "boats" "[LCoracleRace$Boat;"]
def wsL_advise_r2 : List Cond := [Cond.fieldLink RX3 10 "CoracleRace" "river" "LCoracleRace$River;", Cond.fieldLink RX3 150 "CoracleRace$Fleet" "tick" "I", Cond.fieldLink RX3 196 "CoracleRace$Boat" "place" "I", Cond.methodLink RX3 146 yX0_copyFrom, Cond.instanceMethod yX0_copyFrom, Cond.selects RX0 yX0_copyFrom yX0_copyFrom, Cond.initialized RX0, Cond.code yX0_copyFrom cX0_copyFrom 2 none, Cond.fieldLink RX0 9 "CoracleRace$Boat" "strokes" "[I", Cond.methodLink RX0 52 arraycopyName, Cond.native arraycopyName, Cond.static arraycopyName, Cond.initialized "java/lang/System", Cond.fieldLink RX0 13 "CoracleRace$Boat" "length" "I", Cond.fieldLink RX0 17 "CoracleRace$Boat" "strength" "I", Cond.fieldLink RX0 20 "CoracleRace$Boat" "place" "I", Cond.fieldLink RX0 23 "CoracleRace$Boat" "lane" "I", Cond.fieldLink RX0 26 "CoracleRace$Boat" "heading" "I", Cond.fieldLink RX0 29 "CoracleRace$Boat" "soaked" "I", Cond.fieldLink RX0 32 "CoracleRace$Boat" "fouls" "I", Cond.fieldLink RX0 35 "CoracleRace$Boat" "in" "Z", Cond.fieldLink RX0 39 "CoracleRace$Boat" "tickIn" "I", Cond.fieldLink RX0 42 "CoracleRace$Boat" "spins" "I", Cond.fieldLink RX0 45 "CoracleRace$Boat" "stops" "I"]
def wsL_advise_r3 : List Cond := [Cond.methodLink RX3 103 yX0_takePattern, Cond.instanceMethod yX0_takePattern, Cond.selects RX0 yX0_takePattern yX0_takePattern, Cond.code yX0_takePattern cX0_takePattern 5 none, Cond.methodLink RX3 153 yX0_letTickGoBy, Cond.instanceMethod yX0_letTickGoBy, Cond.selects RX0 yX0_letTickGoBy yX0_letTickGoBy, Cond.code yX0_letTickGoBy cX0_letTickGoBy 4 none, Cond.methodLink RX0 62 yX0_strokeIn, Cond.instanceMethod yX0_strokeIn, Cond.selects RX0 yX0_strokeIn yX0_strokeIn, Cond.code yX0_strokeIn cX0_strokeIn 2 (some .int), Cond.methodLink RX0 82 yJ9_floorMod_7cf53, Cond.static yJ9_floorMod_7cf53, Cond.initialized RJ9, Cond.code yJ9_floorMod_7cf53 cJ9_floorMod_7cf53 3 (some .int), Cond.methodLink RX0 66 yX0_forceOf, Cond.instanceMethod yX0_forceOf, Cond.selects RX0 yX0_forceOf yX0_forceOf, Cond.code yX0_forceOf cX0_forceOf 2 (some .int), Cond.methodLink RX0 91 Lib.Math.max.name, Cond.static Lib.Math.max.name, Cond.initialized "java/lang/Math", Cond.code Lib.Math.max.name Lib.Math.max.code 2 (some .int)]
def wsL_advise_r4 : List Cond := [Cond.methodLink RX0 88 yX0_pushOf, Cond.instanceMethod yX0_pushOf, Cond.selects RX0 yX0_pushOf yX0_pushOf, Cond.code yX0_pushOf cX0_pushOf 2 (some .int), Cond.methodLink RX0 69 yX0_drift, Cond.instanceMethod yX0_drift, Cond.selects RX0 yX0_drift yX0_drift, Cond.code yX0_drift cX0_drift 2 none, Cond.methodLink RX0 94 yX2_isLane, Cond.static yX2_isLane, Cond.initialized RX2, Cond.code yX2_isLane cX2_isLane 1 (some .boolean), Cond.methodLink RX0 72 yX0_advance, Cond.instanceMethod yX0_advance, Cond.selects RX0 yX0_advance yX0_advance, Cond.code yX0_advance cX0_advance 5 none, Cond.methodLink RX0 98 Lib.Math.abs.name, Cond.static Lib.Math.abs.name, Cond.code Lib.Math.abs.name Lib.Math.abs.code 1 (some .int), Cond.fieldLink RX0 101 "CoracleRace$River" "water" "[I", Cond.methodLink RX0 108 Lib.Math.min.name, Cond.static Lib.Math.min.name, Cond.code Lib.Math.min.name Lib.Math.min.code 2 (some .int), Cond.methodLink RX0 104 yX2_firstStop]
def wsL_advise_r5 : List Cond := [Cond.instanceMethod yX2_firstStop, Cond.selects RX2 yX2_firstStop yX2_firstStop, Cond.code yX2_firstStop cX2_firstStop 7 (some .int), Cond.fieldLink RX2 19 "CoracleRace$River" "weirs" "I", Cond.fieldLink RX2 13 "CoracleRace$River" "places" "[I", Cond.fieldLink RX2 16 "CoracleRace$River" "gaps" "[I", Cond.methodLink RX0 76 yX0_soak, Cond.instanceMethod yX0_soak, Cond.selects RX0 yX0_soak yX0_soak, Cond.code yX0_soak cX0_soak 2 none]
def wsL_advise : List Cond := .codeWith yL_advise cL_advise 5 (some .int) [(0, 10, 13, 13), (0, 10, 17, 15)] :: ((wsL_advise_r1 ++ (wsL_advise_r2 ++ (wsL_advise_r3 ++ (wsL_advise_r4 ++ wsL_advise_r5)))) ++ wsX30 ++ wsX10 ++ wsX00 ++ wsX20 ++ (vx_atS RX3 34 "java/lang/IndexOutOfBoundsException" ["java/lang/RuntimeException", "java/lang/Exception"]).filter goodWord ++ (vx_atS RX3 41 "java/lang/IllegalArgumentException" ["java/lang/RuntimeException", "java/lang/Exception"]).filter goodWord)
def wsL_law0_r1 : List Cond := [Cond.classLink RL 8 RX3, Cond.instantiable RX3 3, Cond.initialized RX3, Cond.classLink RL 58 RX5, Cond.instantiable RX5 9, Cond.initialized RX5, Cond.arrayClass .long, Cond.methodLink RL 57 yX3_init, Cond.instanceMethod yX3_init, Cond.code yX3_init cX3_init 1 none, Cond.methodLink RX3 1 objectInit, Cond.instanceMethod objectInit, Cond.code objectInit ⟨#[0xb1]⟩ 1 none, Cond.classLink RX3 7 RX2, Cond.instantiable RX2 4, Cond.initialized RX2, Cond.fieldLink RX3 10 "CoracleRace" "river" "LCoracleRace$River;", Cond.classLink RX3 16 RX1, Cond.instantiable RX1 3, Cond.initialized RX1, Cond.fieldLink RX3 19 "CoracleRace" "fleet" "LCoracleRace$Fleet;", Cond.fieldLink RX3 23 "CoracleRace" "trial" "LCoracleRace$Fleet;", Cond.instanceMethod yX2_init, Cond.code yX2_init cX2_init 1 none]
def wsL_law0_r2 : List Cond := [Cond.methodLink RX2 1 objectInit, Cond.arrayClass .int, Cond.fieldLink RX2 7 "CoracleRace$River" "water" "[I", Cond.fieldLink RX2 13 "CoracleRace$River" "places" "[I", Cond.fieldLink RX2 16 "CoracleRace$River" "gaps" "[I", Cond.fieldLink RX2 19 "CoracleRace$River" "weirs" "I", Cond.methodLink RX3 18 yX1_init, Cond.instanceMethod yX1_init, Cond.code yX1_init cX1_init 2 none, Cond.methodLink RX1 1 objectInit, Cond.classLink RX1 9 RX0, Cond.fieldLink RX1 11 "CoracleRace$Fleet" "boats" "[LCoracleRace$Boat;", Cond.fieldLink RX1 15 "CoracleRace$Fleet" "size" "I", Cond.fieldLink RX1 19 "CoracleRace$Fleet" "tick" "I", Cond.instantiable RX0 12, Cond.initialized RX0, Cond.instanceMethod yX0_init, Cond.code yX0_init cX0_init 1 none, Cond.methodLink RX0 1 objectInit, Cond.fieldLink RX0 9 "CoracleRace$Boat" "strokes" "[I", Cond.fieldLink RX0 13 "CoracleRace$Boat" "length" "I", Cond.fieldLink RX0 17 "CoracleRace$Boat" "strength" "I", Cond.fieldLink RX0 20 "CoracleRace$Boat" "place" "I", Cond.fieldLink RX0 23 "CoracleRace$Boat" "lane" "I"]
def wsL_law0_r3 : List Cond := [Cond.fieldLink RX0 26 "CoracleRace$Boat" "heading" "I", Cond.fieldLink RX0 29 "CoracleRace$Boat" "soaked" "I", Cond.fieldLink RX0 32 "CoracleRace$Boat" "fouls" "I", Cond.fieldLink RX0 35 "CoracleRace$Boat" "in" "Z", Cond.fieldLink RX0 39 "CoracleRace$Boat" "tickIn" "I", Cond.fieldLink RX0 42 "CoracleRace$Boat" "spins" "I", Cond.fieldLink RX0 45 "CoracleRace$Boat" "stops" "I", Cond.methodLink RL 60 yX5_init, Cond.instanceMethod yX5_init, Cond.code yX5_init cX5_init 1 none, Cond.methodLink RX5 1 objectInit, Cond.fieldLink RX5 7 "CoracleRaceModel" "water" "[I", Cond.fieldLink RX5 13 "CoracleRaceModel" "weirAt" "[I", Cond.fieldLink RX5 16 "CoracleRaceModel" "gap" "[I", Cond.fieldLink RX5 19 "CoracleRaceModel" "strength" "[I", Cond.classLink RX5 22 RX4, Cond.instantiable RX4 12, Cond.initialized RX4, Cond.fieldLink RX5 27 "CoracleRaceModel" "s" "LCoracleRaceModel$State;", Cond.fieldLink RX5 31 "CoracleRaceModel" "ahead" "LCoracleRaceModel$State;", Cond.instanceMethod yX4_init, Cond.code yX4_init cX4_init 2 none, Cond.fieldLink RX4 3 "CoracleRaceModel$State" "this$0" "LCoracleRaceModel;", Cond.methodLink RX4 9 objectInit]
def wsL_law0_r4 : List Cond := [Cond.fieldLink RX4 15 "CoracleRaceModel$State" "place" "[I", Cond.fieldLink RX4 19 "CoracleRaceModel$State" "lane" "[I", Cond.fieldLink RX4 22 "CoracleRaceModel$State" "heads" "[I", Cond.fieldLink RX4 25 "CoracleRaceModel$State" "soaked" "[I", Cond.fieldLink RX4 28 "CoracleRaceModel$State" "fouls" "[I", Cond.fieldLink RX4 31 "CoracleRaceModel$State" "came" "[I", Cond.fieldLink RX4 34 "CoracleRaceModel$State" "spins" "[I", Cond.fieldLink RX4 37 "CoracleRaceModel$State" "stops" "[I", Cond.fieldLink RX4 40 "CoracleRaceModel$State" "length" "[I", Cond.fieldLink RX4 43 "CoracleRaceModel$State" "strokes" "[I", Cond.methodLink RL 61 yL_setWater, Cond.static yL_setWater, Cond.initialized RL, Cond.codeWith yL_setWater cL_setWater 5 (some .int) [(0, 10, 13, 13), (0, 10, 17, 15)], Cond.classLink RL 13 "java/lang/IndexOutOfBoundsException", Cond.classLink RL 15 "java/lang/IllegalArgumentException", Cond.methodLink RL 7 yX3_setWater, Cond.instanceMethod yX3_setWater, Cond.selects RX3 yX3_setWater yX3_setWater, Cond.code yX3_setWater cX3_setWater 4 (some .int), Cond.classLink RX3 30 "java/lang/IndexOutOfBoundsException", Cond.initialized "java/lang/IndexOutOfBoundsException", Cond.classLink RX3 37 "java/lang/IllegalArgumentException", Cond.initialized "java/lang/IllegalArgumentException"]
def wsL_law0_r5 : List Cond := [Cond.fieldLink RX3 42 "CoracleRace$River" "water" "[I", Cond.methodLink RX3 26 yX2_isLane, Cond.static yX2_isLane, Cond.code yX2_isLane cX2_isLane 1 (some .boolean), Cond.methodLink RL 66 yX5_setWater, Cond.instanceMethod yX5_setWater, Cond.selects RX5 yX5_setWater yX5_setWater, Cond.code yX5_setWater cX5_setWater 4 (some .int), Cond.fieldLink RX5 34 "CoracleRaceModel" "thrown" "I", Cond.methodLink RX5 41 yX5_isFrom, Cond.static yX5_isFrom, Cond.code yX5_isFrom cX5_isFrom 3 (some .boolean), Cond.methodLink RX5 45 yX5_no, Cond.instanceMethod yX5_no, Cond.selects RX5 yX5_no yX5_no, Cond.code yX5_no cX5_no 2 (some .int), Cond.methodLink RL 67 yX5_thrown, Cond.instanceMethod yX5_thrown, Cond.selects RX5 yX5_thrown yX5_thrown, Cond.code yX5_thrown cX5_thrown 1 (some .int), Cond.methodLink RL 71 yL_weir, Cond.static yL_weir, Cond.codeWith yL_weir cL_weir 5 (some .int) [(0, 10, 13, 15), (0, 10, 17, 20)], Cond.classLink RL 20 "java/lang/IllegalStateException"]
def wsL_law0_r6 : List Cond := [Cond.methodLink RL 17 yX3_weir, Cond.instanceMethod yX3_weir, Cond.selects RX3 yX3_weir yX3_weir, Cond.code yX3_weir cX3_weir 3 (some .int), Cond.classLink RX3 54 "java/lang/IllegalStateException", Cond.initialized "java/lang/IllegalStateException", Cond.fieldLink RX3 50 "CoracleRace$River" "weirs" "I", Cond.methodLink RX3 59 yX2_hasWeirAt, Cond.instanceMethod yX2_hasWeirAt, Cond.selects RX2 yX2_hasWeirAt yX2_hasWeirAt, Cond.code yX2_hasWeirAt cX2_hasWeirAt 3 (some .boolean), Cond.methodLink RX3 64 yX2_addWeir, Cond.instanceMethod yX2_addWeir, Cond.selects RX2 yX2_addWeir yX2_addWeir, Cond.code yX2_addWeir cX2_addWeir 3 none, Cond.methodLink RL 73 yX5_weir, Cond.instanceMethod yX5_weir, Cond.selects RX5 yX5_weir yX5_weir, Cond.code yX5_weir cX5_weir 5 (some .int), Cond.fieldLink RX5 49 "CoracleRaceModel" "weirs" "I", Cond.methodLink RL 74 yL_launch, Cond.static yL_launch, Cond.codeWith yL_launch cL_launch 5 (some .int) [(0, 10, 13, 15), (0, 10, 17, 20)], Cond.methodLink RL 22 yX3_launch]
def wsL_law0_r7 : List Cond := [Cond.instanceMethod yX3_launch, Cond.selects RX3 yX3_launch yX3_launch, Cond.code yX3_launch cX3_launch 3 (some .int), Cond.fieldLink RX3 74 "CoracleRace$Fleet" "size" "I", Cond.methodLink RX3 79 yX1_add, Cond.instanceMethod yX1_add, Cond.selects RX1 yX1_add yX1_add, Cond.code yX1_add cX1_add 3 (some .int), Cond.methodLink RX1 23 yX0_start, Cond.instanceMethod yX0_start, Cond.selects RX0 yX0_start yX0_start, Cond.code yX0_start cX0_start 3 none, Cond.methodLink RX0 48 yX0_takePattern, Cond.instanceMethod yX0_takePattern, Cond.selects RX0 yX0_takePattern yX0_takePattern, Cond.code yX0_takePattern cX0_takePattern 5 none, Cond.methodLink RL 76 yX5_launch, Cond.instanceMethod yX5_launch, Cond.selects RX5 yX5_launch yX5_launch, Cond.code yX5_launch cX5_launch 3 (some .int), Cond.fieldLink RX5 38 "CoracleRaceModel" "boats" "I", Cond.methodLink RL 77 yL_paddle, Cond.static yL_paddle, Cond.codeWith yL_paddle cL_paddle 6 (some .int) [(0, 12, 15, 13), (0, 12, 19, 15)]]
def wsL_law0_r8 : List Cond := [Cond.methodLink RL 25 yX3_paddle, Cond.instanceMethod yX3_paddle, Cond.selects RX3 yX3_paddle yX3_paddle, Cond.code yX3_paddle cX3_paddle 5 (some .int), Cond.fieldLink RX3 96 "CoracleRace$Fleet" "boats" "[LCoracleRace$Boat;", Cond.fieldLink RX3 100 "CoracleRace$Boat" "length" "I", Cond.methodLink RX3 83 yX1_has, Cond.instanceMethod yX1_has, Cond.selects RX1 yX1_has yX1_has, Cond.code yX1_has cX1_has 2 (some .boolean), Cond.methodLink RX3 90 yX3_isPattern, Cond.static yX3_isPattern, Cond.code yX3_isPattern cX3_isPattern 4 (some .boolean), Cond.methodLink RX3 103 yX0_takePattern, Cond.methodLink RL 80 yX5_paddle, Cond.instanceMethod yX5_paddle, Cond.selects RX5 yX5_paddle yX5_paddle, Cond.code yX5_paddle cX5_paddle 5 (some .int), Cond.methodLink RX5 67 yX5_isBoat, Cond.instanceMethod yX5_isBoat, Cond.selects RX5 yX5_isBoat yX5_isBoat, Cond.code yX5_isBoat cX5_isBoat 2 (some .boolean), Cond.methodLink RX5 71 yX5_isPattern, Cond.static yX5_isPattern]
def wsL_law0_r9 : List Cond := [Cond.code yX5_isPattern cX5_isPattern 3 (some .boolean), Cond.fieldLink RX5 64 "CoracleRaceModel" "TENS" "[I", Cond.methodLink RL 81 yL_tar, Cond.static yL_tar, Cond.codeWith yL_tar cL_tar 4 (some .int) [(0, 9, 12, 13), (0, 9, 15, 20)], Cond.methodLink RL 29 yX3_tar, Cond.instanceMethod yX3_tar, Cond.selects RX3 yX3_tar yX3_tar, Cond.code yX3_tar cX3_tar 2 (some .int), Cond.methodLink RX3 106 yX0_isIn, Cond.instanceMethod yX0_isIn, Cond.selects RX0 yX0_isIn yX0_isIn, Cond.code yX0_isIn cX0_isIn 1 (some .boolean), Cond.methodLink RX3 112 yX0_dryOut, Cond.instanceMethod yX0_dryOut, Cond.selects RX0 yX0_dryOut yX0_dryOut, Cond.code yX0_dryOut cX0_dryOut 2 (some .int), Cond.methodLink RL 84 yX5_tar, Cond.instanceMethod yX5_tar, Cond.selects RX5 yX5_tar yX5_tar, Cond.code yX5_tar cX5_tar 3 (some .int), Cond.methodLink RX5 75 yX4_isIn, Cond.instanceMethod yX4_isIn, Cond.selects RX4 yX4_isIn yX4_isIn]
def wsL_law0_r10 : List Cond := [Cond.code yX4_isIn cX4_isIn 2 (some .boolean), Cond.methodLink RL 85 yL_boat, Cond.static yL_boat, Cond.codeWith yL_boat cL_boat 5 (some .int) [(0, 10, 13, 13)], Cond.methodLink RL 33 yX3_boat, Cond.instanceMethod yX3_boat, Cond.selects RX3 yX3_boat yX3_boat, Cond.code yX3_boat cX3_boat 3 (some .int), Cond.methodLink RX3 118 yX0_fact, Cond.instanceMethod yX0_fact, Cond.selects RX0 yX0_fact yX0_fact, Cond.code yX0_fact cX0_fact 2 (some .int), Cond.methodLink RX0 58 yX0_time, Cond.instanceMethod yX0_time, Cond.selects RX0 yX0_time yX0_time, Cond.code yX0_time cX0_time 1 (some .int), Cond.methodLink RL 87 yX5_boat, Cond.instanceMethod yX5_boat, Cond.selects RX5 yX5_boat yX5_boat, Cond.code yX5_boat cX5_boat 3 (some .int), Cond.methodLink RX5 99 yX5_boatTold, Cond.instanceMethod yX5_boatTold, Cond.selects RX5 yX5_boatTold yX5_boatTold, Cond.code yX5_boatTold cX5_boatTold 4 (some .int)]
def wsL_law0_r11 : List Cond := [Cond.methodLink RX5 90 yX4_time, Cond.instanceMethod yX4_time, Cond.selects RX4 yX4_time yX4_time, Cond.code yX4_time cX4_time 2 (some .int), Cond.methodLink RX4 60 yX4_isIn, Cond.methodLink RL 88 yL_count, Cond.static yL_count, Cond.codeWith yL_count cL_count 4 (some .int) [(0, 9, 12, 13)], Cond.methodLink RL 36 yX3_count, Cond.instanceMethod yX3_count, Cond.selects RX3 yX3_count yX3_count, Cond.code yX3_count cX3_count 2 (some .int), Cond.methodLink RX3 124 yX3_countIn, Cond.instanceMethod yX3_countIn, Cond.selects RX3 yX3_countIn yX3_countIn, Cond.code yX3_countIn cX3_countIn 3 (some .int), Cond.fieldLink RX3 150 "CoracleRace$Fleet" "tick" "I", Cond.methodLink RX3 139 yX1_boatsIn, Cond.instanceMethod yX1_boatsIn, Cond.selects RX1 yX1_boatsIn yX1_boatsIn, Cond.code yX1_boatsIn cX1_boatsIn 3 (some .int), Cond.methodLink RX1 35 yX0_isIn, Cond.methodLink RX3 187 yX1_foulsAdded, Cond.instanceMethod yX1_foulsAdded]
def wsL_law0_r12 : List Cond := [Cond.selects RX1 yX1_foulsAdded yX1_foulsAdded, Cond.code yX1_foulsAdded cX1_foulsAdded 3 (some .int), Cond.fieldLink RX1 39 "CoracleRace$Boat" "fouls" "I", Cond.methodLink RX3 190 yX1_leader, Cond.instanceMethod yX1_leader, Cond.selects RX1 yX1_leader yX1_leader, Cond.code yX1_leader cX1_leader 4 (some .int), Cond.fieldLink RX1 42 "CoracleRace$Boat" "place" "I", Cond.methodLink RX3 193 yX1_winner, Cond.instanceMethod yX1_winner, Cond.selects RX1 yX1_winner yX1_winner, Cond.code yX1_winner cX1_winner 4 (some .int), Cond.methodLink RX1 45 yX0_time, Cond.methodLink RL 90 yX5_count, Cond.instanceMethod yX5_count, Cond.selects RX5 yX5_count yX5_count, Cond.code yX5_count cX5_count 2 (some .int), Cond.methodLink RX5 103 yX4_counted, Cond.instanceMethod yX4_counted, Cond.selects RX4 yX4_counted yX4_counted, Cond.code yX4_counted cX4_counted 6 (some .int), Cond.fieldLink RX4 52 "CoracleRaceModel$State" "tick" "I", Cond.methodLink RX4 118 yX4_time, Cond.methodLink RX4 121 yX4_in]
def wsL_law0_r13 : List Cond := [Cond.instanceMethod yX4_in, Cond.selects RX4 yX4_in yX4_in, Cond.code yX4_in cX4_in 3 (some .int), Cond.methodLink RL 91 yL_next, Cond.static yL_next, Cond.codeWith yL_next cL_next 4 (some .int) [(0, 9, 12, 15)], Cond.methodLink RL 39 yX3_next, Cond.instanceMethod yX3_next, Cond.selects RX3 yX3_next yX3_next, Cond.code yX3_next cX3_next 2 (some .int), Cond.methodLink RX3 130 yX2_firstWeirBeyond, Cond.instanceMethod yX2_firstWeirBeyond, Cond.selects RX2 yX2_firstWeirBeyond yX2_firstWeirBeyond, Cond.code yX2_firstWeirBeyond cX2_firstWeirBeyond 4 (some .int), Cond.methodLink RL 93 yX5_next, Cond.instanceMethod yX5_next, Cond.selects RX5 yX5_next yX5_next, Cond.code yX5_next cX5_next 4 (some .int), Cond.methodLink RX5 106 Lib.Math.min.name, Cond.static Lib.Math.min.name, Cond.initialized "java/lang/Math", Cond.code Lib.Math.min.name Lib.Math.min.code 2 (some .int), Cond.methodLink RL 94 yL_rank, Cond.static yL_rank]
def wsL_law0_r14 : List Cond := [Cond.codeWith yL_rank cL_rank 4 (some .int) [(0, 9, 12, 13)], Cond.methodLink RL 42 yX3_rank, Cond.instanceMethod yX3_rank, Cond.selects RX3 yX3_rank yX3_rank, Cond.code yX3_rank cX3_rank 2 (some .int), Cond.methodLink RX3 133 yX1_rankOf, Cond.instanceMethod yX1_rankOf, Cond.selects RX1 yX1_rankOf yX1_rankOf, Cond.code yX1_rankOf cX1_rankOf 4 (some .int), Cond.methodLink RX1 49 yX0_isAheadOf, Cond.instanceMethod yX0_isAheadOf, Cond.selects RX0 yX0_isAheadOf yX0_isAheadOf, Cond.code yX0_isAheadOf cX0_isAheadOf 2 (some .boolean), Cond.methodLink RL 96 yX5_rank, Cond.instanceMethod yX5_rank, Cond.selects RX5 yX5_rank yX5_rank, Cond.code yX5_rank cX5_rank 2 (some .int), Cond.methodLink RX5 114 yX5_rankOf, Cond.instanceMethod yX5_rankOf, Cond.selects RX5 yX5_rankOf yX5_rankOf, Cond.code yX5_rankOf cX5_rankOf 4 (some .int), Cond.methodLink RX5 111 yX5_isAhead, Cond.instanceMethod yX5_isAhead, Cond.selects RX5 yX5_isAhead yX5_isAhead]
def wsL_law0_r15 : List Cond := [Cond.code yX5_isAhead cX5_isAhead 3 (some .boolean), Cond.methodLink RL 97 yL_go, Cond.static yL_go, Cond.codeWith yL_go cL_go 4 (some .int) [(0, 9, 12, 15)], Cond.methodLink RL 45 yX3_go, Cond.instanceMethod yX3_go, Cond.selects RX3 yX3_go yX3_go, Cond.code yX3_go cX3_go 3 (some .int), Cond.methodLink RX3 142 yX1_letTicksGoBy, Cond.instanceMethod yX1_letTicksGoBy, Cond.selects RX1 yX1_letTicksGoBy yX1_letTicksGoBy, Cond.code yX1_letTicksGoBy cX1_letTicksGoBy 5 none, Cond.methodLink RX1 31 yX0_letTickGoBy, Cond.instanceMethod yX0_letTickGoBy, Cond.selects RX0 yX0_letTickGoBy yX0_letTickGoBy, Cond.code yX0_letTickGoBy cX0_letTickGoBy 4 none, Cond.methodLink RX0 62 yX0_strokeIn, Cond.instanceMethod yX0_strokeIn, Cond.selects RX0 yX0_strokeIn yX0_strokeIn, Cond.code yX0_strokeIn cX0_strokeIn 2 (some .int), Cond.methodLink RX0 82 yJ9_floorMod_7cf53, Cond.static yJ9_floorMod_7cf53, Cond.initialized RJ9, Cond.code yJ9_floorMod_7cf53 cJ9_floorMod_7cf53 3 (some .int)]
def wsL_law0_r16 : List Cond := [Cond.methodLink RX0 66 yX0_forceOf, Cond.instanceMethod yX0_forceOf, Cond.selects RX0 yX0_forceOf yX0_forceOf, Cond.code yX0_forceOf cX0_forceOf 2 (some .int), Cond.methodLink RX0 91 Lib.Math.max.name, Cond.static Lib.Math.max.name, Cond.code Lib.Math.max.name Lib.Math.max.code 2 (some .int), Cond.methodLink RX0 88 yX0_pushOf, Cond.instanceMethod yX0_pushOf, Cond.selects RX0 yX0_pushOf yX0_pushOf, Cond.code yX0_pushOf cX0_pushOf 2 (some .int), Cond.methodLink RX0 69 yX0_drift, Cond.instanceMethod yX0_drift, Cond.selects RX0 yX0_drift yX0_drift, Cond.code yX0_drift cX0_drift 2 none, Cond.methodLink RX0 94 yX2_isLane, Cond.methodLink RX0 72 yX0_advance, Cond.instanceMethod yX0_advance, Cond.selects RX0 yX0_advance yX0_advance, Cond.code yX0_advance cX0_advance 5 none, Cond.methodLink RX0 98 Lib.Math.abs.name, Cond.static Lib.Math.abs.name, Cond.code Lib.Math.abs.name Lib.Math.abs.code 1 (some .int), Cond.fieldLink RX0 101 "CoracleRace$River" "water" "[I"]
def wsL_law0_r17 : List Cond := [Cond.methodLink RX0 108 Lib.Math.min.name, Cond.methodLink RX0 104 yX2_firstStop, Cond.instanceMethod yX2_firstStop, Cond.selects RX2 yX2_firstStop yX2_firstStop, Cond.code yX2_firstStop cX2_firstStop 7 (some .int), Cond.methodLink RX0 76 yX0_soak, Cond.instanceMethod yX0_soak, Cond.selects RX0 yX0_soak yX0_soak, Cond.code yX0_soak cX0_soak 2 none, Cond.methodLink RL 99 yX5_go, Cond.instanceMethod yX5_go, Cond.selects RX5 yX5_go yX5_go, Cond.code yX5_go cX5_go 4 (some .int), Cond.methodLink RX5 117 yX4_in, Cond.methodLink RX5 121 yX4_go_, Cond.instanceMethod yX4_go_, Cond.selects RX4 yX4_go_ yX4_go_, Cond.code yX4_go_ cX4_go_ 2 none, Cond.methodLink RX4 115 yX4_go, Cond.instanceMethod yX4_go, Cond.selects RX4 yX4_go yX4_go, Cond.code yX4_go cX4_go 5 none, Cond.methodLink RX4 76 Lib.Math.abs.name, Cond.methodLink RX4 67 Lib.Math.min.name]
def wsL_law0_r18 : List Cond := [Cond.methodLink RX4 95 yX4_paddles, Cond.instanceMethod yX4_paddles, Cond.selects RX4 yX4_paddles yX4_paddles, Cond.code yX4_paddles cX4_paddles 4 (some .int), Cond.methodLink RX4 83 Lib.Math.max.name, Cond.methodLink RX4 73 yX4_stroke, Cond.instanceMethod yX4_stroke, Cond.selects RX4 yX4_stroke yX4_stroke, Cond.code yX4_stroke cX4_stroke 3 (some .int), Cond.methodLink RX4 98 yX4_drift, Cond.instanceMethod yX4_drift, Cond.selects RX4 yX4_drift yX4_drift, Cond.code yX4_drift cX4_drift 3 none, Cond.methodLink RX4 105 yX4_stopsAt, Cond.instanceMethod yX4_stopsAt, Cond.selects RX4 yX4_stopsAt yX4_stopsAt, Cond.code yX4_stopsAt cX4_stopsAt 5 (some .int), Cond.methodLink RX4 108 yX4_soak, Cond.instanceMethod yX4_soak, Cond.selects RX4 yX4_soak yX4_soak, Cond.code yX4_soak cX4_soak 3 none, Cond.methodLink RL 100 yL_arrives, Cond.static yL_arrives, Cond.codeWith yL_arrives cL_arrives 4 (some .int) [(0, 9, 12, 13)]]
def wsL_law0_r19 : List Cond := [Cond.methodLink RL 48 yX3_arrives, Cond.instanceMethod yX3_arrives, Cond.selects RX3 yX3_arrives yX3_arrives, Cond.code yX3_arrives cX3_arrives 4 (some .int), Cond.methodLink RX3 146 yX0_copyFrom, Cond.instanceMethod yX0_copyFrom, Cond.selects RX0 yX0_copyFrom yX0_copyFrom, Cond.code yX0_copyFrom cX0_copyFrom 2 none, Cond.methodLink RX0 52 arraycopyName, Cond.native arraycopyName, Cond.static arraycopyName, Cond.initialized "java/lang/System", Cond.methodLink RX3 153 yX0_letTickGoBy, Cond.methodLink RL 102 yX5_arrives, Cond.instanceMethod yX5_arrives, Cond.selects RX5 yX5_arrives yX5_arrives, Cond.code yX5_arrives cX5_arrives 3 (some .int), Cond.methodLink RX5 124 yX4_become, Cond.instanceMethod yX4_become, Cond.selects RX4 yX4_become yX4_become, Cond.code yX4_become cX4_become 2 none, Cond.methodLink RX4 56 yX4_copy, Cond.instanceMethod yX4_copy, Cond.selects RX4 yX4_copy yX4_copy]
def wsL_law0_r20 : List Cond := [Cond.code yX4_copy cX4_copy 3 none, Cond.methodLink RX4 46 arraycopyName, Cond.methodLink RL 103 yL_foresee, Cond.static yL_foresee, Cond.codeWith yL_foresee cL_foresee 5 (some .int) [(0, 10, 13, 15), (0, 10, 17, 13)], Cond.methodLink RL 51 yX3_foresee, Cond.instanceMethod yX3_foresee, Cond.selects RX3 yX3_foresee yX3_foresee, Cond.code yX3_foresee cX3_foresee 3 (some .int), Cond.methodLink RX3 158 yX1_copyFrom, Cond.instanceMethod yX1_copyFrom, Cond.selects RX1 yX1_copyFrom yX1_copyFrom, Cond.code yX1_copyFrom cX1_copyFrom 3 none, Cond.methodLink RX1 27 yX0_copyFrom, Cond.methodLink RL 105 yX5_foresee, Cond.instanceMethod yX5_foresee, Cond.selects RX5 yX5_foresee yX5_foresee, Cond.code yX5_foresee cX5_foresee 4 (some .int), Cond.methodLink RL 106 yL_advise, Cond.static yL_advise, Cond.codeWith yL_advise cL_advise 5 (some .int) [(0, 10, 13, 13), (0, 10, 17, 15)], Cond.methodLink RL 54 yX3_advise, Cond.instanceMethod yX3_advise, Cond.selects RX3 yX3_advise yX3_advise]
def wsL_law0_r21 : List Cond := [Cond.code yX3_advise cX3_advise 9 (some .int), Cond.methodLink RX3 163 yX3_placeWith, Cond.instanceMethod yX3_placeWith, Cond.selects RX3 yX3_placeWith yX3_placeWith, Cond.code yX3_placeWith cX3_placeWith 6 (some .int), Cond.fieldLink RX3 196 "CoracleRace$Boat" "place" "I", Cond.methodLink RL 108 yX5_advise, Cond.instanceMethod yX5_advise, Cond.selects RX5 yX5_advise yX5_advise, Cond.code yX5_advise cX5_advise 7 (some .int), Cond.methodLink RL 109 yX3_mean, Cond.instanceMethod yX3_mean, Cond.selects RX3 yX3_mean yX3_mean, Cond.code yX3_mean cX3_mean 1 (some .double), Cond.methodLink RX3 167 yX1_placesAdded, Cond.instanceMethod yX1_placesAdded, Cond.selects RX1 yX1_placesAdded yX1_placesAdded, Cond.code yX1_placesAdded cX1_placesAdded 3 (some .int), Cond.methodLink RL 113 yX5_mean, Cond.instanceMethod yX5_mean, Cond.selects RX5 yX5_mean yX5_mean, Cond.code yX5_mean cX5_mean 3 (some .double), Cond.methodLink RL 114 yX3_digest, Cond.instanceMethod yX3_digest]
def wsL_law0_r22 : List Cond := [Cond.selects RX3 yX3_digest yX3_digest, Cond.code yX3_digest cX3_digest 4 (some .long), Cond.constantLong RX3 170 (1163), Cond.constantLong RX3 172 (31), Cond.fieldLink RX3 174 "CoracleRace$River" "places" "[I", Cond.fieldLink RX3 177 "CoracleRace$River" "gaps" "[I", Cond.methodLink RX3 180 yX3_digestWith, Cond.instanceMethod yX3_digestWith, Cond.selects RX3 yX3_digestWith yX3_digestWith, Cond.code yX3_digestWith cX3_digestWith 7 (some .long), Cond.fieldLink RX3 184 "CoracleRace$Boat" "strokes" "[I", Cond.methodLink RL 118 yX5_digest, Cond.instanceMethod yX5_digest, Cond.selects RX5 yX5_digest yX5_digest, Cond.code yX5_digest cX5_digest 7 (some .long), Cond.constantLong RX5 128 (1163), Cond.constantLong RX5 130 (31), Cond.methodLink RX5 132 yX4_stroke]
def wsL_law0 : List Cond := (wsL_law0_r1 ++ (wsL_law0_r2 ++ (wsL_law0_r3 ++ (wsL_law0_r4 ++ (wsL_law0_r5 ++ (wsL_law0_r6 ++ (wsL_law0_r7 ++ (wsL_law0_r8 ++ (wsL_law0_r9 ++ (wsL_law0_r10 ++ (wsL_law0_r11 ++ (wsL_law0_r12 ++ (wsL_law0_r13 ++ (wsL_law0_r14 ++ (wsL_law0_r15 ++ (wsL_law0_r16 ++ (wsL_law0_r17 ++ (wsL_law0_r18 ++ (wsL_law0_r19 ++ (wsL_law0_r20 ++ (wsL_law0_r21 ++ wsL_law0_r22))))))))))))))))))))) ++ wsX30 ++ wsX50 ++ wsX20 ++ wsX10 ++ wsX00 ++ wsX40 ++ ([] : List Cond)
def wsL_law : List Cond := wsL_law0 ++ (vx_atS RX3 34 "java/lang/IndexOutOfBoundsException" ["java/lang/RuntimeException", "java/lang/Exception"]).filter goodWord ++ (vx_atS RX3 41 "java/lang/IllegalArgumentException" ["java/lang/RuntimeException", "java/lang/Exception"]).filter goodWord ++ (vx_atS RX3 58 "java/lang/IllegalStateException" ["java/lang/RuntimeException", "java/lang/Exception"]).filter goodWord
abbrev vwCl : List vw_C := [(RX0, TX0, 12), (RX1, TX1, 3), (RX2, TX2, 4), (RX3, TX3, 3), (RX4, TX4, 12), (RX5, TX5, 9)]
end
section
/-! ===== my worlds: the cells of a list of indices L, each at the address 'ad k', with the entry 'E k' ===== -/
def fW (L : List Nat) (ad : Nat → Nat) (E : Nat → va_E) : va_W := L.map (fun k => (ad k, E k))
theorem fW_get {L : List Nat} {ad : Nat → Nat} {E : Nat → va_E} {k : Nat} (h : k ∈ L) : ∃ i : Nat, (fW L ad E)[i]? = some (ad k, E k) := List.getElem?_of_mem (List.mem_map.mpr ⟨k, h, rfl⟩)
theorem fW_at {L : List Nat} {ad : Nat → Nat} {E : Nat → va_E} {k i : Nat} (h : L[i]? = some k) : (fW L ad E)[i]? = some (ad k, E k) := by
  simp [fW, h]
theorem fW_set {A : Nat → Prop} {L : List Nat} {ad : Nat → Nat} {E : Nat → va_E} {k i : Nat} {e : va_E} (hD : va_D A (fW L ad E)) (hk : k ∈ L) (hi : (fW L ad E)[i]? = some (ad k, E k)) : (fW L ad E).set i (ad k, e) = fW L ad (va_up E k e) := by
  obtain ⟨i0, h0⟩ := List.getElem?_of_mem hk
  have h1 : (fW L ad E)[i0]? = some (ad k, E k) := fW_at h0
  have h2 : i0 = i := hD.1 i0 i _ _ h1 hi rfl
  subst h2
  have hl : i0 < (fW L ad E).length := (List.getElem?_eq_some_iff.mp h1).1
  apply List.ext_getElem?
  intro j
  by_cases hj : j = i0
  · subst hj
    rw [List.getElem?_set_self hl, fW_at h0, va_up_self]
  · rw [List.getElem?_set_ne (Ne.symm hj)]
    simp only [fW, List.getElem?_map]
    cases hb : L[j]? with
    | none => rfl
    | some b =>
      have hbk : b ≠ k := by
        intro hbk
        subst hbk
        exact hj (hD.1 j i0 _ _ (fW_at hb) h1 rfl)
      simp only [Option.map_some, va_up_ne _ _ hbk]
theorem fW_push {L : List Nat} {ad : Nat → Nat} {E : Nat → va_E} {k q : Nat} {e : va_E} (h : k ∉ L) : fW L ad E ++ [(q, e)] = fW (L ++ [k]) (va_up ad k q) (va_up E k e) := by
  simp only [fW, List.map_append, List.map_cons, List.map_nil, va_up_self]
  congr 1
  apply List.map_congr_left
  intro b hb
  have : b ≠ k := fun q => h (q ▸ hb)
  rw [va_up_ne _ _ this, va_up_ne _ _ this]
theorem fW_congr {L : List Nat} {ad ad' : Nat → Nat} {E E' : Nat → va_E} (h : ∀ k, k ∈ L → ad k = ad' k ∧ E k = E' k) : fW L ad E = fW L ad' E' := by
  apply List.map_congr_left
  intro b hb
  rw [(h b hb).1, (h b hb).2]
/-- the invariant of a walk: the world at H, apart, and nothing outside A changed since H0 -/
def fI (D : va_G) (A : Nat → Prop) (H0 : Heap) (ad : Nat → Nat) (L : List Nat) (E : Nat → va_E) (H : Heap) (locs : List Loc) : Prop := va_P D vwCl (fW L ad E) H ∧ va_D A (fW L ad E) ∧ va_S A H0 H locs
/-- the addresses that the system may use: from z on -/
abbrev fA (z : Nat) : Nat → Prop := fun q => z ≤ q
abbrev fTys (cI cJ cB : ClassId) : List (ClassId × FieldType) := [(cI, .int), (cJ, .long), (cB, .object RX0)]
def fTen : Nat → Int32 := fun j => match j with
  | 0 => 1
  | 1 => 10
  | 2 => 100
  | 3 => 1000
  | 4 => 10000
  | 5 => 100000
  | _ => 1000000
def fNest : List Cond := [.methodLinkNest RX3 9 yX2_init RX3, .methodLinkNest RX1 22 yX0_init RX3, .methodLinkNest RX5 24 yX4_init RX5,
  .fieldLinkNest RX5 84 RX4 "place" "[I" RX5, .fieldLinkNest RX5 52 RX4 "lane" "[I" RX5, .fieldLinkNest RX5 87 RX4 "heads" "[I" RX5, .fieldLinkNest RX5 78 RX4 "soaked" "[I" RX5, .fieldLinkNest RX5 81 RX4 "fouls" "[I" RX5, .fieldLinkNest RX5 55 RX4 "came" "[I" RX5, .fieldLinkNest RX5 93 RX4 "spins" "[I" RX5, .fieldLinkNest RX5 96 RX4 "stops" "[I" RX5, .fieldLinkNest RX5 58 RX4 "length" "[I" RX5, .fieldLinkNest RX5 61 RX4 "strokes" "[I" RX5,
  .fieldLinkNest RX4 102 RX5 "water" "[I" RX5, .fieldLinkNest RX4 86 RX5 "weirs" "I" RX5, .fieldLinkNest RX4 89 RX5 "weirAt" "[I" RX5, .fieldLinkNest RX4 92 RX5 "gap" "[I" RX5, .fieldLinkNest RX4 112 RX5 "boats" "I" RX5, .fieldLinkNest RX4 80 RX5 "strength" "[I" RX5, .fieldLinkNest RX4 64 RX5 "TENS" "[I" RX5]
def fNestOk (w : Cond) : Prop := (∃ a i b n d h, w = .fieldLinkNest a i b n d h) ∨ ∃ a i x h, w = .methodLinkNest a i x h
theorem fNest_ok : ∀ w ∈ fNest, fNestOk w := by
  intro w hw
  simp only [fNest, List.mem_cons, List.mem_nil_iff, or_false] at hw
  rcases hw with h | h | h | h | h | h | h | h | h | h | h | h | h | h | h | h | h | h | h | h <;> subst h
  · exact Or.inr ⟨_, _, _, _, rfl⟩
  · exact Or.inr ⟨_, _, _, _, rfl⟩
  · exact Or.inr ⟨_, _, _, _, rfl⟩
  all_goals exact Or.inl ⟨_, _, _, _, _, _, rfl⟩
theorem fNest_warm {w : Cond} (hw : fNestOk w) {s U : State} (hW : s.WarmedH U.vm) (h : va_Nw w s) : va_Nw w U := by
  rcases hw with ⟨a, i, b, n, d, k, rfl⟩ | ⟨a, i, x, k, rfl⟩
  · exact va_Nw.warmF hW h
  · exact va_Nw.warmM hW h
/-- the texts of the exceptions that the class throws, by their places -/
def fTexts : List (Nat × String) := [(32, "no such lane"), (39, "water is 0 to 6"), (46, "a weir's place is 1 to 199"), (48, "a gap is in a lane, 0 to 4"), (56, "there are 6 weirs"), (62, "there is a weir at this place"), (68, "a lane is 0 to 4"), (72, "strength is 1 to 8"), (77, "there are 6 boats"), (86, "no such boat"), (88, "a pattern has 1 to 6 strokes"), (94, "strokes are at most length digits, each 0 to 3"), (110, "this boat is in"), (116, "what is 0 to 8"), (122, "what is 0 to 6"), (128, "a place is 0 to 200"), (137, "ticks are 1 to 200"), (156, "what is 3 to 6"), (161, "ticks are 1 to 60")]
/-- what every method needs of the machine beside its words: classes, links of nest mates, the table of tens, the two fields that Throwable() reads -/
def fG (D : va_G) (cI cJ cB : ClassId) (t0 z : Nat) (tx : Nat → Nat) (U : State) : Prop :=
  va_K D vwCl (fTys cI cJ cB) U ∧ (∀ w ∈ fNest, va_Nw w U) ∧ va_Z RX5 "TENS" "[I" (.ref t0) (fA z) U U.heap ∧ va_T .int t0 7 (fun j => .int (fTen j)) (fA z) U U.heap ∧ z ≤ U.heap.size
  ∧ vx_Zq Bundle.tN "UNASSIGNED_STACK" Bundle.steD (fA z) U U.heap ∧ vx_Zq Bundle.tN "SUPPRESSED_SENTINEL" Bundle.listD (fA z) U U.heap ∧ (∀ q ∈ fTexts, vk_R RX3 q.1 q.2 (tx q.1) U)
def fPre (D : va_G) (cI cJ cB : ClassId) (t0 z : Nat) (tx : Nat → Nat) (ad : Nat → Nat) (L : List Nat) (E : Nat → va_E) (U : State) : Prop :=
  fG D cI cJ cB t0 z tx U ∧ va_P D vwCl (fW L ad E) U.heap ∧ va_D (fA z) (fW L ad E)
def fB (D : va_G) (z : Nat) (ad : Nat → Nat) (L : List Nat) (E : Nat → va_E) (t : State) : Prop := va_P D vwCl (fW L ad E) t.heap ∧ va_D (fA z) (fW L ad E)
theorem fG_call {D : va_G} {cI cJ cB : ClassId} {t0 z : Nat} {tx : Nat → Nat} {s U : State} {H : Heap} {locs : List Loc} (h : fG D cI cJ cB t0 z tx s) (hS : va_S (fA z) s.heap H locs) (hU : U.heap = H) (hW : s.WarmedH U.vm) : fG D cI cJ cB t0 z tx U := by
  obtain ⟨h1, h2, h3, h4, h5, h6, h7, h8⟩ := h
  have hq : ∀ a : Nat, a < s.heap.size → ¬ fA z a → U.heap[a]? = s.heap[a]? := by rw [hU]; exact hS.2.1
  exact ⟨h1.moved hW.alike, fun w hw => fNest_warm (fNest_ok w hw) hW (h2 w hw), va_Z.moved hW.alike (h3.kept hq), va_T.moved hW.alike (h4.kept hq), by rw [hU]; exact Nat.le_trans h5 hS.1, vx_Zq.moved hW.alike (h6.kept hq), vx_Zq.moved hW.alike (h7.kept hq), fun q hq => vk_R.warm hW (h8 q hq)⟩
theorem fG_blind {D : va_G} {cI cJ cB : ClassId} {t0 z : Nat} {tx : Nat → Nat} {a : Array Value} {U : State} {g : JFrame} {mk : MethodId} (h : fG D cI cJ cB t0 z tx U) : fG D cI cJ cB t0 z tx (U.calling g mk a) := by
  obtain ⟨h1, h2, h3, h4, h5, h6, h7, h8⟩ := h
  have hA : U.vm.Alike (U.calling g mk a).vm := Vm.Alike.refl U.vm
  exact ⟨h1.moved hA, fun w hw => fNest_warm (fNest_ok w hw) (State.WarmedH.refl U) (h2 w hw), va_Z.moved hA h3, va_T.moved hA h4, h5, vx_Zq.moved hA h6, vx_Zq.moved hA h7, fun q hq => vk_R.same (rfl : (U.calling g mk a).vm = U.vm) (h8 q hq)⟩
theorem fPre_blind {av : List Value} {D : va_G} {cI cJ cB : ClassId} {t0 z : Nat} {tx : Nat → Nat} {ad : Nat → Nat} {L : List Nat} {E : Nat → va_E} : FrameBlind (va_Pc av (fPre D cI cJ cB t0 z tx ad L E)) := fun a U g mk q => ⟨q.1, fG_blind q.2.1, q.2.2.1, q.2.2.2⟩
theorem fPre_of {av : List Value} {D : va_G} {cI cJ cB : ClassId} {t0 z : Nat} {tx : Nat → Nat} {s : State} {ad : Nat → Nat} {L : List Nat} {E : Nat → va_E} {H : Heap} {locs : List Loc} (hG : fG D cI cJ cB t0 z tx s) (hI : fI D (fA z) s.heap ad L E H locs) : PreS s H (va_Pc av (fPre D cI cJ cB t0 z tx ad L E)) av :=
  ⟨fPre_blind, fun U hU hW => ⟨rfl, fG_call hG hI.2.2 hU hW, by rw [hU]; exact hI.1, hI.2.1⟩⟩
theorem fPre_ofV {As : List Value} {D : va_G} {cI cJ cB : ClassId} {t0 z : Nat} {tx : Nat → Nat} {s : State} {ad : Nat → Nat} {L : List Nat} {E : Nat → va_E} {H : Heap} {locs : List Loc} (hG : fG D cI cJ cB t0 z tx s) (hI : fI D (fA z) s.heap ad L E H locs) {k ci : Nat} {fs : List Value} {r : vw_C} {C : String} (hk : k ∈ L) (he : E k = .inr (ci, fs)) (hc : vwCl[ci]? = some r) (hC : r.1 = C) : PreV s H C (ad k) (va_Pc (.ref (ad k) :: As) (fPre D cI cJ cB t0 z tx ad L E)) As := by
  subst hC
  obtain ⟨i, hi⟩ := fW_get (ad := ad) (E := E) hk
  rw [he] at hi
  exact ⟨fPre_blind, va_recv hG.1 hI.1 hc hi, fun U hU hW => ⟨rfl, fG_call hG hI.2.2 hU hW, by rw [hU]; exact hI.1, hI.2.1⟩⟩
section FR
variable {p : Program} {l : Launch} {e : Env} {R : Room} {s : State} {m : MethodId} {args : Array Value} {below : List Frame} {meth : Method} {c : Code} {H H0 : Heap} {locs : List Loc} {cells slots : Nat} {Q : State → Prop}
variable {cc : ByteArray} {pc : Nat} {ls : Array Slot} {rest st0 : List Value} {D : va_G} {A : Nat → Prop} {tys : List (ClassId × FieldType)} {ad : Nat → Nat} {L : List Nat} {E : Nat → va_E}
theorem f_get (hexec : p.tables.exec = Jvm.exec) (hb : c.code = cc) {own C : String} {T : u_T} {N ci index : Nat} {Ts : List Cond} (hts : ∀ w ∈ Ts, w.before args s = true) (hin : ∀ w ∈ u_ws C T N, w ∈ Ts) (hown : s.vm.findClass own = some m.cls) (hK : va_K D vwCl tys s) (hI : fI D A H0 ad L E H locs) {k a : Nat} (ha : ad k = a) (hk : k ∈ L) {fs : List Value} (he : E k = .inr (ci, fs)) (hc : vwCl[ci]? = some (C, T, N)) (j : Nat) (hj : j < N) (hlink : (Cond.fieldLink own index (T j).1 (T j).2.1 (T j).2.2.1).before args s = true) {v : Value} (hv : fs[j]? = some v) (hdg : decode cc pc = .ok (.getfield index, 3))
    (kk : W p l e R s m args below meth c H locs cells slots Q (F0 m (pc + 3) ls (v :: rest))) : W p l e R s m args below meth c H locs cells slots Q (F0 m pc ls (.ref a :: rest)) := by
  subst ha
  obtain ⟨i, hi⟩ := fW_get (ad := ad) (E := E) hk
  rw [he] at hi
  exact va_get hexec hb hts hin hown hK hI.1 i hi hc j hj hlink (fun _ h9 => h9) hv hdg kk
theorem f_getN (hexec : p.tables.exec = Jvm.exec) (hb : c.code = cc) {own C host : String} {T : u_T} {N ci index : Nat} {Ts : List Cond} (hts : ∀ w ∈ Ts, w.before args s = true) (hin : ∀ w ∈ u_ws C T N, w ∈ Ts) (hown : s.vm.findClass own = some m.cls) (hK : va_K D vwCl tys s) (hI : fI D A H0 ad L E H locs) {k a : Nat} (ha : ad k = a) (hk : k ∈ L) {fs : List Value} (he : E k = .inr (ci, fs)) (hc : vwCl[ci]? = some (C, T, N)) (j : Nat) (hj : j < N) (hlink : va_Nw (.fieldLinkNest own index (T j).1 (T j).2.1 (T j).2.2.1 host) s) {v : Value} (hv : fs[j]? = some v) (hdg : decode cc pc = .ok (.getfield index, 3))
    (kk : W p l e R s m args below meth c H locs cells slots Q (F0 m (pc + 3) ls (v :: rest))) : W p l e R s m args below meth c H locs cells slots Q (F0 m pc ls (.ref a :: rest)) := by
  subst ha
  obtain ⟨i, hi⟩ := fW_get (ad := ad) (E := E) hk
  rw [he] at hi
  exact va_getN hexec hb hts hin hown hK hI.1 i hi hc j hj (va_Nw.use rfl hlink) (fun _ h9 => h9) hv hdg kk
theorem f_put (hexec : p.tables.exec = Jvm.exec) (hb : c.code = cc) {own C : String} {T : u_T} {N ci index : Nat} {Ts : List Cond} (hts : ∀ w ∈ Ts, w.before args s = true) (hin : ∀ w ∈ u_ws C T N, w ∈ Ts) (ty0 : Nat → FieldType) (hty : ∀ k, k < N → parseFieldDescriptor (T k).2.2.1 = some (ty0 k)) (hnm : ∀ a, a < N → ∀ b, b < N → a ≠ b → (T a).2.1 ≠ (T b).2.1) (hown : s.vm.findClass own = some m.cls) (hK : va_K D vwCl tys s) (hI : fI D A H0 ad L E H locs) {k a : Nat} (ha : ad k = a) (hk : k ∈ L) {fs : List Value} (he : E k = .inr (ci, fs)) (hc : vwCl[ci]? = some (C, T, N)) (j : Nat) (hj : j < N) (hlink : (Cond.fieldLink own index (T j).1 (T j).2.1 (T j).2.2.1).before args s = true) (hfin : (T j).2.2.2 = false) {v : Value} (hn : narrow (ty0 j) v = v) (hfit : fits (ty0 j) v = true) (hl : j < fs.length) (hdg : decode cc pc = .ok (.putfield index, 3))
    (kk : ∀ (E1 : Nat → va_E) (H1 : Heap) (locs1 : List Loc), E1 k = .inr (ci, fs.set j v) → (∀ q, q ≠ k → E1 q = E q) → fI D A H0 ad L E1 H1 locs1 → W p l e R s m args below meth c H1 locs1 cells slots Q (F0 m (pc + 3) ls rest)) : W p l e R s m args below meth c H locs cells slots Q (F0 m pc ls (v :: .ref a :: rest)) := by
  subst ha
  obtain ⟨i, hi⟩ := fW_get (ad := ad) (E := E) hk
  have hi2 := hi
  rw [he] at hi2
  refine va_put hexec hb hts hin ty0 hty hnm hown hK hI.1 hI.2.1 hI.2.2 i hi2 hc j hj hlink (fun _ h9 => h9) hfin (hty j hj) hn hfit hl hdg (fun H1 locs1 hP hD hS => ?_)
  rw [fW_set hI.2.1 hk hi] at hP hD
  exact kk _ H1 locs1 (va_up_self _ _ _) (fun q hq => va_up_ne _ _ hq) ⟨hP, hD, hS⟩
theorem f_putN (hexec : p.tables.exec = Jvm.exec) (hb : c.code = cc) {own C host : String} {T : u_T} {N ci index : Nat} {Ts : List Cond} (hts : ∀ w ∈ Ts, w.before args s = true) (hin : ∀ w ∈ u_ws C T N, w ∈ Ts) (ty0 : Nat → FieldType) (hty : ∀ k, k < N → parseFieldDescriptor (T k).2.2.1 = some (ty0 k)) (hnm : ∀ a, a < N → ∀ b, b < N → a ≠ b → (T a).2.1 ≠ (T b).2.1) (hown : s.vm.findClass own = some m.cls) (hK : va_K D vwCl tys s) (hI : fI D A H0 ad L E H locs) {k a : Nat} (ha : ad k = a) (hk : k ∈ L) {fs : List Value} (he : E k = .inr (ci, fs)) (hc : vwCl[ci]? = some (C, T, N)) (j : Nat) (hj : j < N) (hlink : va_Nw (.fieldLinkNest own index (T j).1 (T j).2.1 (T j).2.2.1 host) s) (hfin : (T j).2.2.2 = false) {v : Value} (hn : narrow (ty0 j) v = v) (hfit : fits (ty0 j) v = true) (hl : j < fs.length) (hdg : decode cc pc = .ok (.putfield index, 3))
    (kk : ∀ (E1 : Nat → va_E) (H1 : Heap) (locs1 : List Loc), E1 k = .inr (ci, fs.set j v) → (∀ q, q ≠ k → E1 q = E q) → fI D A H0 ad L E1 H1 locs1 → W p l e R s m args below meth c H1 locs1 cells slots Q (F0 m (pc + 3) ls rest)) : W p l e R s m args below meth c H locs cells slots Q (F0 m pc ls (v :: .ref a :: rest)) := by
  subst ha
  obtain ⟨i, hi⟩ := fW_get (ad := ad) (E := E) hk
  have hi2 := hi
  rw [he] at hi2
  refine va_putN hexec hb hts hin ty0 hty hnm hown hK hI.1 hI.2.1 hI.2.2 i hi2 hc j hj (va_Nw.use rfl hlink) (fun _ h9 => h9) hfin (hty j hj) hn hfit hl hdg (fun H1 locs1 hP hD hS => ?_)
  rw [fW_set hI.2.1 hk hi] at hP hD
  exact kk _ H1 locs1 (va_up_self _ _ _) (fun q hq => va_up_ne _ _ hq) ⟨hP, hD, hS⟩
theorem f_putF (hexec : p.tables.exec = Jvm.exec) (hb : c.code = cc) {own C : String} {T : u_T} {N ci index : Nat} {Ts : List Cond} (hts : ∀ w ∈ Ts, w.before args s = true) (hin : ∀ w ∈ u_ws C T N, w ∈ Ts) (ty0 : Nat → FieldType) (hty : ∀ k, k < N → parseFieldDescriptor (T k).2.2.1 = some (ty0 k)) (hnm : ∀ a, a < N → ∀ b, b < N → a ≠ b → (T a).2.1 ≠ (T b).2.1) (hown : s.vm.findClass own = some m.cls) (hK : va_K D vwCl tys s) (hI : fI D A H0 ad L E H locs) {k a : Nat} (ha : ad k = a) (hk : k ∈ L) {fs : List Value} (he : E k = .inr (ci, fs)) (hc : vwCl[ci]? = some (C, T, N)) (j : Nat) (hj : j < N) (hlink : (Cond.fieldLink own index (T j).1 (T j).2.1 (T j).2.2.1).before args s = true) (hfin : (T j).2.2.2 = true) (hin2 : meth.name = "<init>") (hdecl : (T j).1 = own) {v : Value} (hn : narrow (ty0 j) v = v) (hfit : fits (ty0 j) v = true) (hl : j < fs.length) (hdg : decode cc pc = .ok (.putfield index, 3))
    (kk : ∀ (E1 : Nat → va_E) (H1 : Heap) (locs1 : List Loc), E1 k = .inr (ci, fs.set j v) → (∀ q, q ≠ k → E1 q = E q) → fI D A H0 ad L E1 H1 locs1 → W p l e R s m args below meth c H1 locs1 cells slots Q (F0 m (pc + 3) ls rest)) : W p l e R s m args below meth c H locs cells slots Q (F0 m pc ls (v :: .ref a :: rest)) := by
  subst ha
  obtain ⟨i, hi⟩ := fW_get (ad := ad) (E := E) hk
  have hi2 := hi
  rw [he] at hi2
  refine va_putF hexec hb hts hin ty0 hty hnm hown hK hI.1 hI.2.1 hI.2.2 i hi2 hc j hj hlink (fun _ h9 => h9) hfin hin2 hdecl (hty j hj) hn hfit hl hdg (fun H1 locs1 hP hD hS => ?_)
  rw [fW_set hI.2.1 hk hi] at hP hD
  exact kk _ H1 locs1 (va_up_self _ _ _) (fun q hq => va_up_ne _ _ hq) ⟨hP, hD, hS⟩
theorem f_iald (hexec : p.tables.exec = Jvm.exec) (hb : c.code = cc) {cI cJ cB : ClassId} (hK : va_K D vwCl (fTys cI cJ cB) s) (hI : fI D A H0 ad L E H locs) {k a : Nat} (ha : ad k = a) (hk : k ∈ L) {n : Nat} {f : Nat → Int32} (he : E k = .inl (cI, n, .inl f)) {i : Int32} (hin : vp_in i n) (hdg : decode cc pc = .ok (.iaload, 1))
    (kk : W p l e R s m args below meth c H locs cells slots Q (F0 m (pc + 1) ls (.int (f i.toNatClampNeg) :: rest))) : W p l e R s m args below meth c H locs cells slots Q (F0 m pc ls (.int i :: .ref a :: rest)) := by
  subst ha
  obtain ⟨q, hi⟩ := fW_get (ad := ad) (E := E) hk
  rw [he] at hi
  exact va_iald hexec hb hK hI.1 q 0 hi rfl hin hdg kk
theorem f_lald (hexec : p.tables.exec = Jvm.exec) (hb : c.code = cc) {cI cJ cB : ClassId} (hK : va_K D vwCl (fTys cI cJ cB) s) (hI : fI D A H0 ad L E H locs) {k a : Nat} (ha : ad k = a) (hk : k ∈ L) {n : Nat} {f : Nat → Int64} (he : E k = .inl (cJ, n, .inr (.inl f))) {i : Int32} (hin : vp_in i n) (hdg : decode cc pc = .ok (.laload, 1))
    (kk : W p l e R s m args below meth c H locs cells slots Q (F0 m (pc + 1) ls (.long (f i.toNatClampNeg) :: rest))) : W p l e R s m args below meth c H locs cells slots Q (F0 m pc ls (.int i :: .ref a :: rest)) := by
  subst ha
  obtain ⟨q, hi⟩ := fW_get (ad := ad) (E := E) hk
  rw [he] at hi
  exact va_lald hexec hb hK hI.1 q 1 hi rfl hin hdg kk
theorem f_aldq (hexec : p.tables.exec = Jvm.exec) (hb : c.code = cc) {cI cJ cB : ClassId} (hK : va_K D vwCl (fTys cI cJ cB) s) (hI : fI D A H0 ad L E H locs) {k a : Nat} (ha : ad k = a) (hk : k ∈ L) {n : Nat} {f : Nat → Option Nat} (he : E k = .inl (cB, n, .inr (.inr (.inr (.inr f))))) {i : Int32} (hin : vp_in i n) {v : Value} (hv : va_rf (f i.toNatClampNeg) = v) (hdg : decode cc pc = .ok (.aaload, 1))
    (kk : W p l e R s m args below meth c H locs cells slots Q (F0 m (pc + 1) ls (v :: rest))) : W p l e R s m args below meth c H locs cells slots Q (F0 m pc ls (.int i :: .ref a :: rest)) := by
  subst ha
  obtain ⟨q, hi⟩ := fW_get (ad := ad) (E := E) hk
  rw [he] at hi
  subst hv
  exact va_aldq hexec hb hK hI.1 q 2 hi rfl hin hdg kk
theorem f_iast (hexec : p.tables.exec = Jvm.exec) (hb : c.code = cc) {cI cJ cB : ClassId} (hK : va_K D vwCl (fTys cI cJ cB) s) (hI : fI D A H0 ad L E H locs) {k a : Nat} (ha : ad k = a) (hk : k ∈ L) {n : Nat} {f : Nat → Int32} (he : E k = .inl (cI, n, .inl f)) {i x : Int32} (hin : vp_in i n) (hdg : decode cc pc = .ok (.iastore, 1))
    (kk : ∀ (E1 : Nat → va_E) (H1 : Heap) (locs1 : List Loc), E1 k = .inl (cI, n, .inl (upd f i.toNatClampNeg x)) → (∀ q, q ≠ k → E1 q = E q) → fI D A H0 ad L E1 H1 locs1 → W p l e R s m args below meth c H1 locs1 cells slots Q (F0 m (pc + 1) ls rest)) : W p l e R s m args below meth c H locs cells slots Q (F0 m pc ls (.int x :: .int i :: .ref a :: rest)) := by
  subst ha
  obtain ⟨q, hi⟩ := fW_get (ad := ad) (E := E) hk
  have hi2 := hi
  rw [he] at hi2
  refine va_iast hexec hb hK hI.1 hI.2.1 hI.2.2 q 0 hi2 rfl hin hdg (fun H1 locs1 hP hD hS => ?_)
  rw [fW_set hI.2.1 hk hi] at hP hD
  exact kk _ H1 locs1 (va_up_self _ _ _) (fun q hq => va_up_ne _ _ hq) ⟨hP, hD, hS⟩
theorem f_last (hexec : p.tables.exec = Jvm.exec) (hb : c.code = cc) {cI cJ cB : ClassId} (hK : va_K D vwCl (fTys cI cJ cB) s) (hI : fI D A H0 ad L E H locs) {k a : Nat} (ha : ad k = a) (hk : k ∈ L) {n : Nat} {f : Nat → Int64} (he : E k = .inl (cJ, n, .inr (.inl f))) {i : Int32} {x : Int64} (hin : vp_in i n) (hdg : decode cc pc = .ok (.lastore, 1))
    (kk : ∀ (E1 : Nat → va_E) (H1 : Heap) (locs1 : List Loc), E1 k = .inl (cJ, n, .inr (.inl (vp_updL f i.toNatClampNeg x))) → (∀ q, q ≠ k → E1 q = E q) → fI D A H0 ad L E1 H1 locs1 → W p l e R s m args below meth c H1 locs1 cells slots Q (F0 m (pc + 1) ls rest)) : W p l e R s m args below meth c H locs cells slots Q (F0 m pc ls (.long x :: .int i :: .ref a :: rest)) := by
  subst ha
  obtain ⟨q, hi⟩ := fW_get (ad := ad) (E := E) hk
  have hi2 := hi
  rw [he] at hi2
  refine va_last hexec hb hK hI.1 hI.2.1 hI.2.2 q 1 hi2 rfl hin hdg (fun H1 locs1 hP hD hS => ?_)
  rw [fW_set hI.2.1 hk hi] at hP hD
  exact kk _ H1 locs1 (va_up_self _ _ _) (fun q hq => va_up_ne _ _ hq) ⟨hP, hD, hS⟩
theorem f_astq (hexec : p.tables.exec = Jvm.exec) (hb : c.code = cc) {cI cJ cB : ClassId} (hK : va_K D vwCl (fTys cI cJ cB) s) (hI : fI D A H0 ad L E H locs) {k a : Nat} (ha : ad k = a) (hk : k ∈ L) {n : Nat} {f : Nat → Option Nat} (he : E k = .inl (cB, n, .inr (.inr (.inr (.inr f))))) {kv av : Nat} (hav : ad kv = av) (hkv : kv ∈ L) {vs : List Value} (hev : E kv = .inr (0, vs)) {i : Int32} (hin : vp_in i n) (hdg : decode cc pc = .ok (.aastore, 1))
    (kk : ∀ (E1 : Nat → va_E) (H1 : Heap) (locs1 : List Loc), E1 k = .inl (cB, n, .inr (.inr (.inr (.inr (va_up f i.toNatClampNeg (some av)))))) → (∀ q, q ≠ k → E1 q = E q) → fI D A H0 ad L E1 H1 locs1 → W p l e R s m args below meth c H1 locs1 cells slots Q (F0 m (pc + 1) ls rest)) : W p l e R s m args below meth c H locs cells slots Q (F0 m pc ls (.ref av :: .int i :: .ref a :: rest)) := by
  subst ha
  subst hav
  obtain ⟨q, hi⟩ := fW_get (ad := ad) (E := E) hk
  obtain ⟨qv, hiv⟩ := fW_get (ad := ad) (E := E) hkv
  have hi2 := hi
  rw [he] at hi2
  rw [hev] at hiv
  refine va_astq (r := (RX0, TX0, 12)) hexec hb hK hI.1 hI.2.1 hI.2.2 q 2 qv 0 hi2 rfl hiv rfl hin hdg (fun H1 locs1 hP hD hS => ?_)
  rw [fW_set hI.2.1 hk hi] at hP hD
  exact kk _ H1 locs1 (va_up_self _ _ _) (fun q hq => va_up_ne _ _ hq) ⟨hP, hD, hS⟩
theorem f_alen (hexec : p.tables.exec = Jvm.exec) (hb : c.code = cc) {cI cJ cB : ClassId} (hK : va_K D vwCl (fTys cI cJ cB) s) (hI : fI D A H0 ad L E H locs) {k a : Nat} (ha : ad k = a) (hk : k ∈ L) {n : Nat} {f : Nat → Int32} (he : E k = .inl (cI, n, .inl f)) {v : Int32} (hv : Int32.ofNat n = v) (hdg : decode cc pc = .ok (.arraylength, 1))
    (kk : W p l e R s m args below meth c H locs cells slots Q (F0 m (pc + 1) ls (.int v :: rest))) : W p l e R s m args below meth c H locs cells slots Q (F0 m pc ls (.ref a :: rest)) := by
  subst ha
  obtain ⟨q, hi⟩ := fW_get (ad := ad) (E := E) hk
  rw [he] at hi
  exact va_alen (x := (n, .inl f)) hexec hb hK hI.1 q 0 hi (ty := .int) rfl hv hdg kk
theorem f_copy (hexec : p.tables.exec = Jvm.exec) (hb : c.code = cc) (hml : c.maxLocals = ls.size) {own : String} {index : Nat} (hown : s.vm.findClass own = some m.cls) (hlink : (Cond.methodLink own index arraycopyName).before args s = true) (hnat : (Cond.native arraycopyName).before args s = true) (hstat : (Cond.static arraycopyName).before args s = true) (hini : (Cond.initialized "java/lang/System").before args s = true)
    {cI cJ cB : ClassId} (hK : va_K D vwCl (fTys cI cJ cB) s) (hI : fI D A H0 ad L E H locs) {k0 k1 a0 a1 : Nat} (ha0 : ad k0 = a0) (ha1 : ad k1 = a1) (hk0 : k0 ∈ L) (hk1 : k1 ∈ L) {n0 n1 : Nat} {f g : Nat → Int32} (he0 : E k0 = .inl (cI, n0, .inl f)) (he1 : E k1 = .inl (cI, n1, .inl g)) {sp dp n : Int32} (h1 : ¬ sp < 0) (h2 : ¬ dp < 0) (h3 : ¬ n < 0) (h4 : sp.toNatClampNeg + n.toNatClampNeg ≤ n0) (h5 : dp.toNatClampNeg + n.toNatClampNeg ≤ n1)
    (hframes : 1 ≤ R.frames) (hlocals : (rest.map fun v => v.category).sum + (nativeFrameWords "java/lang/System" "arraycopy" 5 + 11) ≤ R.locals) (hdg : decode cc pc = .ok (.invokestatic index, 3))
    (kk : ∀ (E1 : Nat → va_E) (H1 : Heap) (locs1 : List Loc), E1 k1 = .inl (cI, n1, .inl (va_cpy f g sp.toNatClampNeg dp.toNatClampNeg n.toNatClampNeg)) → (∀ q, q ≠ k1 → E1 q = E q) → fI D A H0 ad L E1 H1 locs1 → W p l e R s m args below meth c H1 locs1 cells slots Q (F0 m (pc + 3) ls rest)) : W p l e R s m args below meth c H locs cells slots Q (F0 m pc ls (.int n :: .int dp :: .ref a1 :: .int sp :: .ref a0 :: rest)) := by
  subst ha0
  subst ha1
  obtain ⟨q0, hi0⟩ := fW_get (ad := ad) (E := E) hk0
  obtain ⟨q1, hi1⟩ := fW_get (ad := ad) (E := E) hk1
  have hi2 := hi1
  rw [he0] at hi0
  rw [he1] at hi2
  refine va_copyi (ty := .int) hexec hb hml hown hlink hnat hstat hini hK hI.1 hI.2.1 hI.2.2 q0 q1 0 0 hi0 hi2 rfl rfl rfl h1 h2 h3 h4 h5 (fun _ _ => rfl) hframes hlocals hdg (fun H1 locs1 hP hD hS => ?_)
  rw [fW_set hI.2.1 hk1 hi1] at hP hD
  exact kk _ H1 locs1 (va_up_self _ _ _) (fun q hq => va_up_ne _ _ hq) ⟨hP, hD, hS⟩
theorem f_new {c0 : Code} (hexec : p.tables.exec = Jvm.exec) (hb : c0.code = cc) {own C : String} {T : u_T} {N ci index : Nat} {Ts : List Cond} (hts : ∀ w ∈ Ts, w.before args s = true) (hin : ∀ w ∈ u_ws C T N, w ∈ Ts) (ty : Nat → FieldType) (hty : ∀ k, k < N → parseFieldDescriptor (T k).2.2.1 = some (ty k)) (hown : s.vm.findClass own = some m.cls) (hcl : (Cond.classLink own index C).before args s = true) (hinst : (Cond.instantiable C N).before args s = true) (hini : (Cond.initialized C).before args s = true)
    (hK : va_K D vwCl tys s) (hI : fI D A H0 ad L E H locs) (hA : ∀ q, H0.size ≤ q → A q) (hc : vwCl[ci]? = some (C, T, N)) {fs : List Value} (hfs : ∀ j, j < N → defaultValue (ty j) = vp_V fs j) {k : Nat} (hk : k ∉ L) (hcells : cells + 1 ≤ R.cells) (hslots : slots + N ≤ R.slots) (hdg : decode cc pc = .ok (.new index, 3))
    (kk : ∀ (a : Nat) (ad1 : Nat → Nat) (E1 : Nat → va_E) (H1 : Heap), ad1 k = a → (∀ q, q ≠ k → ad1 q = ad q) → E1 k = .inr (ci, fs) → (∀ q, q ≠ k → E1 q = E q) → fI D A H0 ad1 (L ++ [k]) E1 H1 locs →
      W p l e R s m args below meth c0 H1 locs (cells + 1) (slots + N) Q (F0 m (pc + 3) ls (.ref a :: rest))) : W p l e R s m args below meth c0 H locs cells slots Q (F0 m pc ls rest) := by
  refine va_new hexec hb hts hin ty hty hown hcl hinst hini hK hI.1 hI.2.1 hI.2.2 hA hc hfs hcells hslots hdg (fun q H1 hP hD hS => ?_)
  rw [fW_push hk] at hP hD
  exact kk q _ _ H1 (va_up_self _ _ _) (fun q hq => va_up_ne _ _ hq) (va_up_self _ _ _) (fun q hq => va_up_ne _ _ hq) ⟨hP, hD, hS⟩
theorem f_newi (hexec : p.tables.exec = Jvm.exec) (hb : c.code = cc) (harr : (Cond.arrayClass .int).before args s = true) {cI cJ cB : ClassId} (hK : va_K D vwCl (fTys cI cJ cB) s) (hI : fI D A H0 ad L E H locs) (hA : ∀ q, H0.size ≤ q → A q) {n : Int32} {N : Nat} (hn : ¬ n < 0) (hN : n.toNatClampNeg = N) (hbytes : N * 4 ≤ 536870912) {k : Nat} (hk : k ∉ L) (hcells : cells + 1 ≤ R.cells) (hslots : slots + N ≤ R.slots) (hdg : decode cc pc = .ok (.newarray .int, 2))
    (kk : ∀ (a : Nat) (ad1 : Nat → Nat) (E1 : Nat → va_E) (H1 : Heap), ad1 k = a → (∀ q, q ≠ k → ad1 q = ad q) → E1 k = .inl (cI, N, .inl (fun _ => 0)) → (∀ q, q ≠ k → E1 q = E q) → fI D A H0 ad1 (L ++ [k]) E1 H1 locs →
      W p l e R s m args below meth c H1 locs (cells + 1) (slots + N) Q (F0 m (pc + 2) ls (.ref a :: rest))) : W p l e R s m args below meth c H locs cells slots Q (F0 m pc ls (.int n :: rest)) := by
  refine va_newa (atype := .int) (ty := .int) (a0 := (N, .inl (fun _ => 0))) hexec hb harr rfl hK hI.1 hI.2.1 hI.2.2 hA (fun cA => rfl) hn hN hbytes hcells hslots hdg (fun q cA H1 hK1 hP hD hS => ?_)
  have e1 : cA = cI := by
    have h1 := (hK1.2 3 (cA, .int) rfl).2
    have h2 := (hK.2 0 (cI, .int) rfl).2
    exact Option.some.inj (h1.symm.trans h2)
  subst e1
  rw [fW_push hk] at hP hD
  exact kk q _ _ H1 (va_up_self _ _ _) (fun q hq => va_up_ne _ _ hq) (va_up_self _ _ _) (fun q hq => va_up_ne _ _ hq) ⟨hP, hD, hS⟩
theorem f_newl (hexec : p.tables.exec = Jvm.exec) (hb : c.code = cc) (harr : (Cond.arrayClass .long).before args s = true) {cI cJ cB : ClassId} (hK : va_K D vwCl (fTys cI cJ cB) s) (hI : fI D A H0 ad L E H locs) (hA : ∀ q, H0.size ≤ q → A q) {n : Int32} {N : Nat} (hn : ¬ n < 0) (hN : n.toNatClampNeg = N) (hbytes : N * 8 ≤ 536870912) {k : Nat} (hk : k ∉ L) (hcells : cells + 1 ≤ R.cells) (hslots : slots + N ≤ R.slots) (hdg : decode cc pc = .ok (.newarray .long, 2))
    (kk : ∀ (a : Nat) (ad1 : Nat → Nat) (E1 : Nat → va_E) (H1 : Heap), ad1 k = a → (∀ q, q ≠ k → ad1 q = ad q) → E1 k = .inl (cJ, N, .inr (.inl (fun _ => 0))) → (∀ q, q ≠ k → E1 q = E q) → fI D A H0 ad1 (L ++ [k]) E1 H1 locs →
      W p l e R s m args below meth c H1 locs (cells + 1) (slots + N) Q (F0 m (pc + 2) ls (.ref a :: rest))) : W p l e R s m args below meth c H locs cells slots Q (F0 m pc ls (.int n :: rest)) := by
  refine va_newa (atype := .long) (ty := .long) (a0 := (N, .inr (.inl (fun _ => 0)))) hexec hb harr rfl hK hI.1 hI.2.1 hI.2.2 hA (fun cA => rfl) hn hN hbytes hcells hslots hdg (fun q cA H1 hK1 hP hD hS => ?_)
  have e1 : cA = cJ := by
    have h1 := (hK1.2 3 (cA, .long) rfl).2
    have h2 := (hK.2 1 (cJ, .long) rfl).2
    exact Option.some.inj (h1.symm.trans h2)
  subst e1
  rw [fW_push hk] at hP hD
  exact kk q _ _ H1 (va_up_self _ _ _) (fun q hq => va_up_ne _ _ hq) (va_up_self _ _ _) (fun q hq => va_up_ne _ _ hq) ⟨hP, hD, hS⟩
/-- what a call needs of the caller's world -/
theorem f_calli {z mc ms : Nat} {a : Array Value} {S : Type} {post : Int32 → S → Prop} {B : S → State → Prop} (hr : va_Run p l e R s m args below meth c H locs cells slots mc ms (F0 m pc ls st0) rest (va_Qi post B (fA z) a) (fA z)) (hS : va_S (fA z) H0 H locs)
    (kk : ∀ (r : Int32) (u : S) (t : State) (H1 : Heap) (locs1 : List Loc), t.heap = H1 → post r u → B u t → va_S (fA z) H0 H1 locs1 → W p l e R s m args below meth c H1 locs1 (cells + mc) (slots + ms) Q (F0 m (pc + 3) ls (.int r :: rest))) : W p l e R s m args below meth c H locs cells slots Q (F0 m pc ls st0) :=
  va_calli hr hS (fun q _ h => h) (fun q h => h) (fun r u t H1 locs1 ht _ hp hb _ _ hS1 => kk r u t H1 locs1 ht hp hb hS1)
theorem f_calli1 {z mc ms : Nat} {a : Array Value} {post : Int32 → (Nat → va_E) → Prop} (hr : va_Run p l e R s m args below meth c H locs cells slots mc ms (F0 m pc ls st0) rest (va_Qi post (fB D z ad L) (fA z) a) (fA z)) (hI : fI D (fA z) H0 ad L E H locs)
    (kk : ∀ (r : Int32) (E1 : Nat → va_E) (H1 : Heap) (locs1 : List Loc), post r E1 → fI D (fA z) H0 ad L E1 H1 locs1 → W p l e R s m args below meth c H1 locs1 (cells + mc) (slots + ms) Q (F0 m (pc + 3) ls (.int r :: rest))) : W p l e R s m args below meth c H locs cells slots Q (F0 m pc ls st0) :=
  f_calli hr hI.2.2 (fun r u t H1 locs1 ht hp hb hS1 => kk r u H1 locs1 hp ⟨by rw [← ht]; exact hb.1, hb.2, hS1⟩)
theorem f_calll1 {z mc ms : Nat} {a : Array Value} {post : Int64 → (Nat → va_E) → Prop} (hr : va_Run p l e R s m args below meth c H locs cells slots mc ms (F0 m pc ls st0) rest (va_Ql post (fB D z ad L) (fA z) a) (fA z)) (hI : fI D (fA z) H0 ad L E H locs)
    (kk : ∀ (r : Int64) (E1 : Nat → va_E) (H1 : Heap) (locs1 : List Loc), post r E1 → fI D (fA z) H0 ad L E1 H1 locs1 → W p l e R s m args below meth c H1 locs1 (cells + mc) (slots + ms) Q (F0 m (pc + 3) ls (.long r :: rest))) : W p l e R s m args below meth c H locs cells slots Q (F0 m pc ls st0) :=
  va_calll hr hI.2.2 (fun q _ h => h) (fun q h => h) (fun r u t H1 locs1 ht _ hp hb _ _ hS1 => kk r u H1 locs1 hp ⟨by rw [← ht]; exact hb.1, hb.2, hS1⟩)
theorem f_calld1 {z mc ms : Nat} {a : Array Value} {post : UInt64 → (Nat → va_E) → Prop} (hr : va_Run p l e R s m args below meth c H locs cells slots mc ms (F0 m pc ls st0) rest (va_Qd post (fB D z ad L) (fA z) a) (fA z)) (hI : fI D (fA z) H0 ad L E H locs)
    (kk : ∀ (r : UInt64) (E1 : Nat → va_E) (H1 : Heap) (locs1 : List Loc), post r E1 → fI D (fA z) H0 ad L E1 H1 locs1 → W p l e R s m args below meth c H1 locs1 (cells + mc) (slots + ms) Q (F0 m (pc + 3) ls (.double r :: rest))) : W p l e R s m args below meth c H locs cells slots Q (F0 m pc ls st0) :=
  va_calld hr hI.2.2 (fun q _ h => h) (fun q h => h) (fun r u t H1 locs1 ht _ hp hb _ _ hS1 => kk r u H1 locs1 hp ⟨by rw [← ht]; exact hb.1, hb.2, hS1⟩)
theorem f_callv1 {z mc ms : Nat} {a : Array Value} {post : (Nat → va_E) → Prop} (hr : va_Run p l e R s m args below meth c H locs cells slots mc ms (F0 m pc ls st0) rest (va_Qv post (fB D z ad L) (fA z) a) (fA z)) (hI : fI D (fA z) H0 ad L E H locs)
    (kk : ∀ (E1 : Nat → va_E) (H1 : Heap) (locs1 : List Loc), post E1 → fI D (fA z) H0 ad L E1 H1 locs1 → W p l e R s m args below meth c H1 locs1 (cells + mc) (slots + ms) Q (F0 m (pc + 3) ls rest)) : W p l e R s m args below meth c H locs cells slots Q (F0 m pc ls st0) :=
  va_callv hr hI.2.2 (fun q _ h => h) (fun q h => h) (fun u t H1 locs1 ht _ hp hb _ _ hS1 => kk u H1 locs1 hp ⟨by rw [← ht]; exact hb.1, hb.2, hS1⟩)
/-- a constructor: it gives a new address map and a longer list -/
theorem f_callc {z mc ms : Nat} {a : Array Value} {L1 : List Nat} {post : (Nat → Nat) × (Nat → va_E) → Prop} (hr : va_Run p l e R s m args below meth c H locs cells slots mc ms (F0 m pc ls st0) rest (va_Qv post (fun u t => fB D z u.1 L1 u.2 t) (fA z) a) (fA z)) (hI : fI D (fA z) H0 ad L E H locs)
    (kk : ∀ (ad1 : Nat → Nat) (E1 : Nat → va_E) (H1 : Heap) (locs1 : List Loc), post (ad1, E1) → fI D (fA z) H0 ad1 L1 E1 H1 locs1 → W p l e R s m args below meth c H1 locs1 (cells + mc) (slots + ms) Q (F0 m (pc + 3) ls rest)) : W p l e R s m args below meth c H locs cells slots Q (F0 m pc ls st0) :=
  va_callv hr hI.2.2 (fun q _ h => h) (fun q h => h) (fun u t H1 locs1 ht _ hp hb _ _ hS1 => kk u.1 u.2 H1 locs1 hp ⟨by rw [← ht]; exact hb.1, hb.2, hS1⟩)
/-- ends -/
theorem f_iret {z : Nat} {L1 : List Nat} {ad1 : Nat → Nat} {post : Int32 → (Nat → va_E) → Prop} {v : Int32} (hexec : p.tables.exec = Jvm.exec) (hb : c.code = cc) (hr : meth.sig.returnType = some .int) (hlocks : meth.locks = false) (hI : fI D (fA z) s.heap ad1 L1 E H locs) {Lp : List Nat} {adp : Nat → Nat} (hsub : fB D z adp Lp E { s with heap := H }) (hp : post v E) (hdg : decode cc pc = .ok (.ireturn, 1)) : W p l e R s m args below meth c H locs cells slots (MQ below (va_Qi post (fB D z adp Lp) (fA z)) args s cells slots (fA z)) (F0 m pc ls [.int v]) :=
  W.iret hexec hb hr (fun t ht hW => ⟨⟨v, E, rfl, hp, by show va_P _ _ _ t.heap; rw [ht]; exact hsub.1, hsub.2⟩, hI.2.2.F ht⟩) hI.2.2.2.2 hdg hlocks
end FR
end
