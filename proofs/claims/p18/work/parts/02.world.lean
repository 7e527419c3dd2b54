/-! ===== my worlds: the cells of a list of indices L, each at the address 'ad k', with the entry 'E k' ===== -/
def fW (L : List Nat) (ad : Nat → Nat) (E : Nat → va_E) : va_W := L.map (fun k => (ad k, E k))
theorem fW_get {L : List Nat} {ad : Nat → Nat} {E : Nat → va_E} {k : Nat} (h : k ∈ L) : ∃ i : Nat, (fW L ad E)[i]? = some (ad k, E k) := List.getElem?_of_mem (List.mem_map.mpr ⟨k, h, rfl⟩)
theorem fW_at {L : List Nat} {ad : Nat → Nat} {E : Nat → va_E} {k i : Nat} (h : L[i]? = some k) : (fW L ad E)[i]? = some (ad k, E k) := by
  simp [fW, h]
theorem fW_set {A : Nat → Prop} {L : List Nat} {ad : Nat → Nat} {E : Nat → va_E} {k i : Nat} {e : va_E} (hD : va_D A (fW L ad E)) (hk : k ∈ L) (hi : (fW L ad E)[i]? = some (ad k, E k)) : (fW L ad E).set i (ad k, e) = fW L ad (va_up E k e) := by
  obtain ⟨i0, h0⟩ := List.getElem?_of_mem hk
  have h1 : (fW L ad E)[i0]? = some (ad k, E k) := fW_at h0
  have h2 : i0 = i := hD.1 i0 i _ _ h1 hi rfl
  subst h2
  have hl : i0 < (fW L ad E).length := (List.getElem?_eq_some_iff.mp h1).1
  apply List.ext_getElem?
  intro j
  by_cases hj : j = i0
  · subst hj
    rw [List.getElem?_set_self hl, fW_at h0, va_up_self]
  · rw [List.getElem?_set_ne (Ne.symm hj)]
    simp only [fW, List.getElem?_map]
    cases hb : L[j]? with
    | none => rfl
    | some b =>
      have hbk : b ≠ k := by
        intro hbk
        subst hbk
        exact hj (hD.1 j i0 _ _ (fW_at hb) h1 rfl)
      simp only [Option.map_some, va_up_ne _ _ hbk]
theorem fW_push {L : List Nat} {ad : Nat → Nat} {E : Nat → va_E} {k q : Nat} {e : va_E} (h : k ∉ L) : fW L ad E ++ [(q, e)] = fW (L ++ [k]) (va_up ad k q) (va_up E k e) := by
  simp only [fW, List.map_append, List.map_cons, List.map_nil, va_up_self]
  congr 1
  apply List.map_congr_left
  intro b hb
  have : b ≠ k := fun q => h (q ▸ hb)
  rw [va_up_ne _ _ this, va_up_ne _ _ this]
theorem fW_congr {L : List Nat} {ad ad' : Nat → Nat} {E E' : Nat → va_E} (h : ∀ k, k ∈ L → ad k = ad' k ∧ E k = E' k) : fW L ad E = fW L ad' E' := by
  apply List.map_congr_left
  intro b hb
  rw [(h b hb).1, (h b hb).2]
/-- the invariant of a walk: the world at H, apart, and nothing outside A changed since H0 -/
def fI (D : va_G) (A : Nat → Prop) (H0 : Heap) (ad : Nat → Nat) (L : List Nat) (E : Nat → va_E) (H : Heap) (locs : List Loc) : Prop := va_P D vwCl (fW L ad E) H ∧ va_D A (fW L ad E) ∧ va_S A H0 H locs
/-- the addresses that the system may use: from z on -/
abbrev fA (z : Nat) : Nat → Prop := fun q => z ≤ q
abbrev fTys (cI cJ cB : ClassId) : List (ClassId × FieldType) := [(cI, .int), (cJ, .array .int), (cB, .object RX0)]
def fIO : String := "java/lang/IndexOutOfBoundsException"
def fIA : String := "java/lang/IllegalArgumentException"
def fIS : String := "java/lang/IllegalStateException"
def fNest : List Cond := [.methodLinkNest RX3 9 yX2_init RX3, .methodLinkNest RX1 22 yX0_init RX3,
  .castable fIO fIO, .castable fIA fIA, .castable fIS fIS,
  .declares (Bundle.initS "java/lang/RuntimeException"), .declares (Bundle.initS "java/lang/Exception"), .declares (Bundle.initS Bundle.tN), .arrayOver (.object RX0), .arrayOver (.array .int)]
def fNestOk (w : Cond) : Prop := (∃ a i x h, w = .methodLinkNest a i x h) ∨ (∃ a b, w = .castable a b) ∨ (∃ x, w = .declares x) ∨ (∃ x, w = .arrayOver (.object x)) ∨ ∃ t, w = .arrayOver (.array t)
theorem fNest_ok : ∀ w ∈ fNest, fNestOk w := by
  intro w hw
  simp only [fNest, List.mem_cons, List.mem_nil_iff, or_false] at hw
  rcases hw with h | h | h | h | h | h | h | h | h | h <;> subst h
  · exact Or.inl ⟨_, _, _, _, rfl⟩
  · exact Or.inl ⟨_, _, _, _, rfl⟩
  all_goals first | exact Or.inr (Or.inl ⟨_, _, rfl⟩) | exact Or.inr (Or.inr (Or.inl ⟨_, rfl⟩)) | exact Or.inr (Or.inr (Or.inr (Or.inl ⟨_, rfl⟩))) | exact Or.inr (Or.inr (Or.inr (Or.inr ⟨_, rfl⟩)))
theorem fNest_warm {w : Cond} (hw : fNestOk w) {s U : State} (hW : s.WarmedH U.vm) (h : va_Nw w s) : va_Nw w U := by
  rcases hw with ⟨a, i, x, k, rfl⟩ | ⟨a, b, rfl⟩ | ⟨x, rfl⟩ | ⟨x, rfl⟩ | ⟨t, rfl⟩
  · exact va_Nw.warmM hW h
  · exact va_Nw.warmC hW h
  · exact va_Nw.warmD hW h
  · exact va_AO.moved hW.alike h
  · exact over_moved (a := #[]) (a' := #[]) hW.alike h
/-- the texts of the exceptions that the class throws, by their places -/
def fTexts : List (Nat × String) := [(32, "no such lane"), (39, "water is 0 to 6"), (46, "a weir's place is 1 to 199"), (48, "a gap is in a lane, 0 to 4"), (56, "there are 6 weirs"), (62, "there is a weir at this place"), (68, "a lane is 0 to 4"), (72, "strength is 1 to 8"), (77, "there are 6 boats"), (86, "no such boat"), (88, "a pattern has 1 to 6 strokes"), (94, "strokes are at most length digits, each 0 to 3"), (110, "this boat is in"), (116, "what is 0 to 8"), (122, "what is 0 to 6"), (137, "ticks are 1 to 200"), (156, "what is 3 to 6"), (161, "ticks are 1 to 60")]
/-- what every method needs of the machine beside its words: classes, links of nest mates, the script of the law at t0, the two fields that Throwable() reads -/
def fG (D : va_G) (cI cJ cB : ClassId) (t0 z : Nat) (tx : Nat → Nat) (U : State) : Prop :=
  va_K D vwCl (fTys cI cJ cB) U ∧ (∀ w ∈ fNest, va_Nw w U) ∧ (∃ (Lx : Nat) (xs : Nat → Int32), Lx ≤ 260 ∧ va_X t0 Lx xs U U.heap) ∧ t0 < z ∧ z ≤ U.heap.size
  ∧ vx_Zq Bundle.tN "UNASSIGNED_STACK" Bundle.steD (fA z) U U.heap ∧ vx_Zq Bundle.tN "SUPPRESSED_SENTINEL" Bundle.listD (fA z) U U.heap ∧ (∀ q ∈ fTexts, vk_R RX3 q.1 q.2 (tx q.1) U)
def fPre (D : va_G) (cI cJ cB : ClassId) (t0 z : Nat) (tx : Nat → Nat) (ad : Nat → Nat) (L : List Nat) (E : Nat → va_E) (U : State) : Prop :=
  fG D cI cJ cB t0 z tx U ∧ va_P D vwCl (fW L ad E) U.heap ∧ va_D (fA z) (fW L ad E)
def fB (D : va_G) (z : Nat) (ad : Nat → Nat) (L : List Nat) (E : Nat → va_E) (t : State) : Prop := va_P D vwCl (fW L ad E) t.heap ∧ va_D (fA z) (fW L ad E)
theorem fG_call {D : va_G} {cI cJ cB : ClassId} {t0 z : Nat} {tx : Nat → Nat} {s U : State} {H : Heap} {locs : List Loc} (h : fG D cI cJ cB t0 z tx s) (hS : va_S (fA z) s.heap H locs) (hU : U.heap = H) (hW : s.WarmedH U.vm) : fG D cI cJ cB t0 z tx U := by
  obtain ⟨h1, h2, h3, h4, h5, h6, h7, h8⟩ := h
  have hq : ∀ a : Nat, a < s.heap.size → ¬ fA z a → U.heap[a]? = s.heap[a]? := by rw [hU]; exact hS.2.1
  exact ⟨h1.moved hW.alike, fun w hw => fNest_warm (fNest_ok w hw) hW (h2 w hw), h3.elim (fun Lx h9 => h9.elim (fun xs h9 => ⟨Lx, xs, h9.1, (va_X.moved hW.alike h9.2).kept (hq t0 (Nat.lt_of_lt_of_le h4 h5) (Nat.not_le.mpr h4))⟩)), h4, by rw [hU]; exact Nat.le_trans h5 hS.1, vx_Zq.moved hW.alike (h6.kept hq), vx_Zq.moved hW.alike (h7.kept hq), fun q hq => vk_R.warm hW (h8 q hq)⟩
theorem fG_blind {D : va_G} {cI cJ cB : ClassId} {t0 z : Nat} {tx : Nat → Nat} {a : Array Value} {U : State} {g : JFrame} {mk : MethodId} (h : fG D cI cJ cB t0 z tx U) : fG D cI cJ cB t0 z tx (U.calling g mk a) := by
  obtain ⟨h1, h2, h3, h4, h5, h6, h7, h8⟩ := h
  have hA : U.vm.Alike (U.calling g mk a).vm := Vm.Alike.refl U.vm
  exact ⟨h1.moved hA, fun w hw => fNest_warm (fNest_ok w hw) (State.WarmedH.refl U) (h2 w hw), h3.elim (fun Lx h9 => h9.elim (fun xs h9 => ⟨Lx, xs, h9.1, va_X.moved hA h9.2⟩)), h4, h5, vx_Zq.moved hA h6, vx_Zq.moved hA h7, fun q hq => vk_R.same (rfl : (U.calling g mk a).vm = U.vm) (h8 q hq)⟩
theorem fPre_blind {av : List Value} {D : va_G} {cI cJ cB : ClassId} {t0 z : Nat} {tx : Nat → Nat} {ad : Nat → Nat} {L : List Nat} {E : Nat → va_E} : FrameBlind (va_Pc av (fPre D cI cJ cB t0 z tx ad L E)) := fun a U g mk q => ⟨q.1, fG_blind q.2.1, q.2.2.1, q.2.2.2⟩
theorem fPre_of {av : List Value} {D : va_G} {cI cJ cB : ClassId} {t0 z : Nat} {tx : Nat → Nat} {s : State} {ad : Nat → Nat} {L : List Nat} {E : Nat → va_E} {H : Heap} {locs : List Loc} (hG : fG D cI cJ cB t0 z tx s) (hI : fI D (fA z) s.heap ad L E H locs) : PreS s H (va_Pc av (fPre D cI cJ cB t0 z tx ad L E)) av :=
  ⟨fPre_blind, fun U hU hW => ⟨rfl, fG_call hG hI.2.2 hU hW, by rw [hU]; exact hI.1, hI.2.1⟩⟩
theorem fPre_ofV {As : List Value} {D : va_G} {cI cJ cB : ClassId} {t0 z : Nat} {tx : Nat → Nat} {s : State} {ad : Nat → Nat} {L : List Nat} {E : Nat → va_E} {H : Heap} {locs : List Loc} (hG : fG D cI cJ cB t0 z tx s) (hI : fI D (fA z) s.heap ad L E H locs) {k ci a : Nat} {fs : List Value} {r : vw_C} {C : String} (ha : ad k = a) (hk : k ∈ L) (he : E k = .inr (ci, fs)) (hc : vwCl[ci]? = some r) (hC : r.1 = C) : PreV s H C a (va_Pc (.ref a :: As) (fPre D cI cJ cB t0 z tx ad L E)) As := by
  subst hC
  subst ha
  obtain ⟨i, hi⟩ := fW_get (ad := ad) (E := E) hk
  rw [he] at hi
  exact ⟨fPre_blind, va_recv hG.1 hI.1 hc hi, fun U hU hW => ⟨rfl, fG_call hG hI.2.2 hU hW, by rw [hU]; exact hI.1, hI.2.1⟩⟩
section FR
variable {p : Program} {l : Launch} {e : Env} {R : Room} {s : State} {m : MethodId} {args : Array Value} {below : List Frame} {meth : Method} {c : Code} {H H0 : Heap} {locs : List Loc} {cells slots : Nat} {Q : State → Prop}
variable {cc : ByteArray} {pc : Nat} {ls : Array Slot} {rest st0 : List Value} {D : va_G} {A : Nat → Prop} {tys : List (ClassId × FieldType)} {ad : Nat → Nat} {L : List Nat} {E : Nat → va_E}
theorem f_get (hexec : p.tables.exec = Jvm.exec) (hb : c.code = cc) {own C : String} {T : u_T} {N ci index : Nat} {Ts : List Cond} (hts : ∀ w ∈ Ts, w.before args s = true) (hin : ∀ w ∈ u_ws C T N, w ∈ Ts) (hown : s.vm.findClass own = some m.cls) (hK : va_K D vwCl tys s) (hI : fI D A H0 ad L E H locs) {k a : Nat} (ha : ad k = a) (hk : k ∈ L) {fs : List Value} (he : E k = .inr (ci, fs)) (hc : vwCl[ci]? = some (C, T, N)) (j : Nat) (hj : j < N) (hlink : (Cond.fieldLink own index (T j).1 (T j).2.1 (T j).2.2.1).before args s = true) {v : Value} (hv : fs[j]? = some v) (hdg : decode cc pc = .ok (.getfield index, 3))
    (kk : W p l e R s m args below meth c H locs cells slots Q (F0 m (pc + 3) ls (v :: rest))) : W p l e R s m args below meth c H locs cells slots Q (F0 m pc ls (.ref a :: rest)) := by
  subst ha
  obtain ⟨i, hi⟩ := fW_get (ad := ad) (E := E) hk
  rw [he] at hi
  exact va_get hexec hb hts hin hown hK hI.1 i hi hc j hj hlink (fun _ h9 => h9) hv hdg kk
theorem f_getN (hexec : p.tables.exec = Jvm.exec) (hb : c.code = cc) {own C host : String} {T : u_T} {N ci index : Nat} {Ts : List Cond} (hts : ∀ w ∈ Ts, w.before args s = true) (hin : ∀ w ∈ u_ws C T N, w ∈ Ts) (hown : s.vm.findClass own = some m.cls) (hK : va_K D vwCl tys s) (hI : fI D A H0 ad L E H locs) {k a : Nat} (ha : ad k = a) (hk : k ∈ L) {fs : List Value} (he : E k = .inr (ci, fs)) (hc : vwCl[ci]? = some (C, T, N)) (j : Nat) (hj : j < N) (hlink : va_Nw (.fieldLinkNest own index (T j).1 (T j).2.1 (T j).2.2.1 host) s) {v : Value} (hv : fs[j]? = some v) (hdg : decode cc pc = .ok (.getfield index, 3))
    (kk : W p l e R s m args below meth c H locs cells slots Q (F0 m (pc + 3) ls (v :: rest))) : W p l e R s m args below meth c H locs cells slots Q (F0 m pc ls (.ref a :: rest)) := by
  subst ha
  obtain ⟨i, hi⟩ := fW_get (ad := ad) (E := E) hk
  rw [he] at hi
  exact va_getN hexec hb hts hin hown hK hI.1 i hi hc j hj (va_Nw.use rfl hlink) (fun _ h9 => h9) hv hdg kk
theorem f_put (hexec : p.tables.exec = Jvm.exec) (hb : c.code = cc) {own C : String} {T : u_T} {N ci index : Nat} {Ts : List Cond} (hts : ∀ w ∈ Ts, w.before args s = true) (hin : ∀ w ∈ u_ws C T N, w ∈ Ts) (ty0 : Nat → FieldType) (hty : ∀ k, k < N → parseFieldDescriptor (T k).2.2.1 = some (ty0 k)) (hnm : ∀ a, a < N → ∀ b, b < N → a ≠ b → (T a).2.1 ≠ (T b).2.1) (hown : s.vm.findClass own = some m.cls) (hK : va_K D vwCl tys s) (hI : fI D A H0 ad L E H locs) {k a : Nat} (ha : ad k = a) (hk : k ∈ L) {fs : List Value} (he : E k = .inr (ci, fs)) (hc : vwCl[ci]? = some (C, T, N)) (j : Nat) (hj : j < N) (hlink : (Cond.fieldLink own index (T j).1 (T j).2.1 (T j).2.2.1).before args s = true) (hfin : (T j).2.2.2 = false) {v : Value} (hn : narrow (ty0 j) v = v) (hfit : fits (ty0 j) v = true) (hl : j < fs.length) (hdg : decode cc pc = .ok (.putfield index, 3))
    (kk : ∀ (E1 : Nat → va_E) (H1 : Heap) (locs1 : List Loc), E1 k = .inr (ci, fs.set j v) → (∀ q, q ≠ k → E1 q = E q) → fI D A H0 ad L E1 H1 locs1 → W p l e R s m args below meth c H1 locs1 cells slots Q (F0 m (pc + 3) ls rest)) : W p l e R s m args below meth c H locs cells slots Q (F0 m pc ls (v :: .ref a :: rest)) := by
  subst ha
  obtain ⟨i, hi⟩ := fW_get (ad := ad) (E := E) hk
  have hi2 := hi
  rw [he] at hi2
  refine va_put hexec hb hts hin ty0 hty hnm hown hK hI.1 hI.2.1 hI.2.2 i hi2 hc j hj hlink (fun _ h9 => h9) hfin (hty j hj) hn hfit hl hdg (fun H1 locs1 hP hD hS => ?_)
  rw [fW_set hI.2.1 hk hi] at hP hD
  exact kk _ H1 locs1 (va_up_self _ _ _) (fun q hq => va_up_ne _ _ hq) ⟨hP, hD, hS⟩
theorem f_putN (hexec : p.tables.exec = Jvm.exec) (hb : c.code = cc) {own C host : String} {T : u_T} {N ci index : Nat} {Ts : List Cond} (hts : ∀ w ∈ Ts, w.before args s = true) (hin : ∀ w ∈ u_ws C T N, w ∈ Ts) (ty0 : Nat → FieldType) (hty : ∀ k, k < N → parseFieldDescriptor (T k).2.2.1 = some (ty0 k)) (hnm : ∀ a, a < N → ∀ b, b < N → a ≠ b → (T a).2.1 ≠ (T b).2.1) (hown : s.vm.findClass own = some m.cls) (hK : va_K D vwCl tys s) (hI : fI D A H0 ad L E H locs) {k a : Nat} (ha : ad k = a) (hk : k ∈ L) {fs : List Value} (he : E k = .inr (ci, fs)) (hc : vwCl[ci]? = some (C, T, N)) (j : Nat) (hj : j < N) (hlink : va_Nw (.fieldLinkNest own index (T j).1 (T j).2.1 (T j).2.2.1 host) s) (hfin : (T j).2.2.2 = false) {v : Value} (hn : narrow (ty0 j) v = v) (hfit : fits (ty0 j) v = true) (hl : j < fs.length) (hdg : decode cc pc = .ok (.putfield index, 3))
    (kk : ∀ (E1 : Nat → va_E) (H1 : Heap) (locs1 : List Loc), E1 k = .inr (ci, fs.set j v) → (∀ q, q ≠ k → E1 q = E q) → fI D A H0 ad L E1 H1 locs1 → W p l e R s m args below meth c H1 locs1 cells slots Q (F0 m (pc + 3) ls rest)) : W p l e R s m args below meth c H locs cells slots Q (F0 m pc ls (v :: .ref a :: rest)) := by
  subst ha
  obtain ⟨i, hi⟩ := fW_get (ad := ad) (E := E) hk
  have hi2 := hi
  rw [he] at hi2
  refine va_putN hexec hb hts hin ty0 hty hnm hown hK hI.1 hI.2.1 hI.2.2 i hi2 hc j hj (va_Nw.use rfl hlink) (fun _ h9 => h9) hfin (hty j hj) hn hfit hl hdg (fun H1 locs1 hP hD hS => ?_)
  rw [fW_set hI.2.1 hk hi] at hP hD
  exact kk _ H1 locs1 (va_up_self _ _ _) (fun q hq => va_up_ne _ _ hq) ⟨hP, hD, hS⟩
theorem f_putF (hexec : p.tables.exec = Jvm.exec) (hb : c.code = cc) {own C : String} {T : u_T} {N ci index : Nat} {Ts : List Cond} (hts : ∀ w ∈ Ts, w.before args s = true) (hin : ∀ w ∈ u_ws C T N, w ∈ Ts) (ty0 : Nat → FieldType) (hty : ∀ k, k < N → parseFieldDescriptor (T k).2.2.1 = some (ty0 k)) (hnm : ∀ a, a < N → ∀ b, b < N → a ≠ b → (T a).2.1 ≠ (T b).2.1) (hown : s.vm.findClass own = some m.cls) (hK : va_K D vwCl tys s) (hI : fI D A H0 ad L E H locs) {k a : Nat} (ha : ad k = a) (hk : k ∈ L) {fs : List Value} (he : E k = .inr (ci, fs)) (hc : vwCl[ci]? = some (C, T, N)) (j : Nat) (hj : j < N) (hlink : (Cond.fieldLink own index (T j).1 (T j).2.1 (T j).2.2.1).before args s = true) (hfin : (T j).2.2.2 = true) (hin2 : meth.name = "<init>") (hdecl : (T j).1 = own) {v : Value} (hn : narrow (ty0 j) v = v) (hfit : fits (ty0 j) v = true) (hl : j < fs.length) (hdg : decode cc pc = .ok (.putfield index, 3))
    (kk : ∀ (E1 : Nat → va_E) (H1 : Heap) (locs1 : List Loc), E1 k = .inr (ci, fs.set j v) → (∀ q, q ≠ k → E1 q = E q) → fI D A H0 ad L E1 H1 locs1 → W p l e R s m args below meth c H1 locs1 cells slots Q (F0 m (pc + 3) ls rest)) : W p l e R s m args below meth c H locs cells slots Q (F0 m pc ls (v :: .ref a :: rest)) := by
  subst ha
  obtain ⟨i, hi⟩ := fW_get (ad := ad) (E := E) hk
  have hi2 := hi
  rw [he] at hi2
  refine va_putF hexec hb hts hin ty0 hty hnm hown hK hI.1 hI.2.1 hI.2.2 i hi2 hc j hj hlink (fun _ h9 => h9) hfin hin2 hdecl (hty j hj) hn hfit hl hdg (fun H1 locs1 hP hD hS => ?_)
  rw [fW_set hI.2.1 hk hi] at hP hD
  exact kk _ H1 locs1 (va_up_self _ _ _) (fun q hq => va_up_ne _ _ hq) ⟨hP, hD, hS⟩
theorem f_iald (hexec : p.tables.exec = Jvm.exec) (hb : c.code = cc) {cI cJ cB : ClassId} (hK : va_K D vwCl (fTys cI cJ cB) s) (hI : fI D A H0 ad L E H locs) {k a : Nat} (ha : ad k = a) (hk : k ∈ L) {n : Nat} {f : Nat → Int32} (he : E k = .inl (cI, n, .inl f)) {i : Int32} (hin : vp_in i n) (hdg : decode cc pc = .ok (.iaload, 1))
    (kk : W p l e R s m args below meth c H locs cells slots Q (F0 m (pc + 1) ls (.int (f i.toNatClampNeg) :: rest))) : W p l e R s m args below meth c H locs cells slots Q (F0 m pc ls (.int i :: .ref a :: rest)) := by
  subst ha
  obtain ⟨q, hi⟩ := fW_get (ad := ad) (E := E) hk
  rw [he] at hi
  exact va_iald hexec hb hK hI.1 q 0 hi rfl hin hdg kk
theorem f_aldq (hexec : p.tables.exec = Jvm.exec) (hb : c.code = cc) {cI cJ cB : ClassId} (hK : va_K D vwCl (fTys cI cJ cB) s) (hI : fI D A H0 ad L E H locs) {k a : Nat} (ha : ad k = a) (hk : k ∈ L) {n : Nat} {f : Nat → Option Nat} (he : E k = .inl (cB, n, .inr (.inr (.inr (.inr f))))) {i : Int32} (hin : vp_in i n) {v : Value} (hv : va_rf (f i.toNatClampNeg) = v) (hdg : decode cc pc = .ok (.aaload, 1))
    (kk : W p l e R s m args below meth c H locs cells slots Q (F0 m (pc + 1) ls (v :: rest))) : W p l e R s m args below meth c H locs cells slots Q (F0 m pc ls (.int i :: .ref a :: rest)) := by
  subst ha
  obtain ⟨q, hi⟩ := fW_get (ad := ad) (E := E) hk
  rw [he] at hi
  subst hv
  exact va_aldq hexec hb hK hI.1 q 2 hi rfl hin hdg kk
theorem f_iast (hexec : p.tables.exec = Jvm.exec) (hb : c.code = cc) {cI cJ cB : ClassId} (hK : va_K D vwCl (fTys cI cJ cB) s) (hI : fI D A H0 ad L E H locs) {k a : Nat} (ha : ad k = a) (hk : k ∈ L) {n : Nat} {f : Nat → Int32} (he : E k = .inl (cI, n, .inl f)) {i x : Int32} (hin : vp_in i n) (hdg : decode cc pc = .ok (.iastore, 1))
    (kk : ∀ (E1 : Nat → va_E) (H1 : Heap) (locs1 : List Loc), E1 k = .inl (cI, n, .inl (upd f i.toNatClampNeg x)) → (∀ q, q ≠ k → E1 q = E q) → fI D A H0 ad L E1 H1 locs1 → W p l e R s m args below meth c H1 locs1 cells slots Q (F0 m (pc + 1) ls rest)) : W p l e R s m args below meth c H locs cells slots Q (F0 m pc ls (.int x :: .int i :: .ref a :: rest)) := by
  subst ha
  obtain ⟨q, hi⟩ := fW_get (ad := ad) (E := E) hk
  have hi2 := hi
  rw [he] at hi2
  refine va_iast hexec hb hK hI.1 hI.2.1 hI.2.2 q 0 hi2 rfl hin hdg (fun H1 locs1 hP hD hS => ?_)
  rw [fW_set hI.2.1 hk hi] at hP hD
  exact kk _ H1 locs1 (va_up_self _ _ _) (fun q hq => va_up_ne _ _ hq) ⟨hP, hD, hS⟩
theorem f_astq (hexec : p.tables.exec = Jvm.exec) (hb : c.code = cc) {cI cJ cB : ClassId} (hK : va_K D vwCl (fTys cI cJ cB) s) (hI : fI D A H0 ad L E H locs) {k a : Nat} (ha : ad k = a) (hk : k ∈ L) {n : Nat} {f : Nat → Option Nat} (he : E k = .inl (cB, n, .inr (.inr (.inr (.inr f))))) {kv av : Nat} (hav : ad kv = av) (hkv : kv ∈ L) {vs : List Value} (hev : E kv = .inr (0, vs)) {i : Int32} (hin : vp_in i n) (hdg : decode cc pc = .ok (.aastore, 1))
    (kk : ∀ (E1 : Nat → va_E) (H1 : Heap) (locs1 : List Loc), E1 k = .inl (cB, n, .inr (.inr (.inr (.inr (va_up f i.toNatClampNeg (some av)))))) → (∀ q, q ≠ k → E1 q = E q) → fI D A H0 ad L E1 H1 locs1 → W p l e R s m args below meth c H1 locs1 cells slots Q (F0 m (pc + 1) ls rest)) : W p l e R s m args below meth c H locs cells slots Q (F0 m pc ls (.ref av :: .int i :: .ref a :: rest)) := by
  subst ha
  subst hav
  obtain ⟨q, hi⟩ := fW_get (ad := ad) (E := E) hk
  obtain ⟨qv, hiv⟩ := fW_get (ad := ad) (E := E) hkv
  have hi2 := hi
  rw [he] at hi2
  rw [hev] at hiv
  refine va_astq (r := (RX0, TX0, 12)) hexec hb hK hI.1 hI.2.1 hI.2.2 q 2 qv 0 hi2 rfl hiv rfl hin hdg (fun H1 locs1 hP hD hS => ?_)
  rw [fW_set hI.2.1 hk hi] at hP hD
  exact kk _ H1 locs1 (va_up_self _ _ _) (fun q hq => va_up_ne _ _ hq) ⟨hP, hD, hS⟩
theorem f_alen (hexec : p.tables.exec = Jvm.exec) (hb : c.code = cc) {cI cJ cB : ClassId} (hK : va_K D vwCl (fTys cI cJ cB) s) (hI : fI D A H0 ad L E H locs) {k a : Nat} (ha : ad k = a) (hk : k ∈ L) {n : Nat} {f : Nat → Int32} (he : E k = .inl (cI, n, .inl f)) {v : Int32} (hv : Int32.ofNat n = v) (hdg : decode cc pc = .ok (.arraylength, 1))
    (kk : W p l e R s m args below meth c H locs cells slots Q (F0 m (pc + 1) ls (.int v :: rest))) : W p l e R s m args below meth c H locs cells slots Q (F0 m pc ls (.ref a :: rest)) := by
  subst ha
  obtain ⟨q, hi⟩ := fW_get (ad := ad) (E := E) hk
  rw [he] at hi
  exact va_alen (x := (n, .inl f)) hexec hb hK hI.1 q 0 hi (ty := .int) rfl hv hdg kk
theorem f_copy (hexec : p.tables.exec = Jvm.exec) (hb : c.code = cc) (hml : c.maxLocals = ls.size) {own : String} {index : Nat} (hown : s.vm.findClass own = some m.cls) (hlink : (Cond.methodLink own index arraycopyName).before args s = true) (hnat : (Cond.native arraycopyName).before args s = true) (hstat : (Cond.static arraycopyName).before args s = true) (hini : (Cond.initialized "java/lang/System").before args s = true)
    {cI cJ cB : ClassId} (hK : va_K D vwCl (fTys cI cJ cB) s) (hI : fI D A H0 ad L E H locs) {k0 k1 a0 a1 : Nat} (ha0 : ad k0 = a0) (ha1 : ad k1 = a1) (hk0 : k0 ∈ L) (hk1 : k1 ∈ L) {n0 n1 : Nat} {f g : Nat → Int32} (he0 : E k0 = .inl (cI, n0, .inl f)) (he1 : E k1 = .inl (cI, n1, .inl g)) {sp dp n : Int32} (h1 : ¬ sp < 0) (h2 : ¬ dp < 0) (h3 : ¬ n < 0) (h4 : sp.toNatClampNeg + n.toNatClampNeg ≤ n0) (h5 : dp.toNatClampNeg + n.toNatClampNeg ≤ n1)
    (hframes : 1 ≤ R.frames) (hlocals : (rest.map fun v => v.category).sum + (nativeFrameWords "java/lang/System" "arraycopy" 5 + 11) ≤ R.locals) (hdg : decode cc pc = .ok (.invokestatic index, 3))
    (kk : ∀ (E1 : Nat → va_E) (H1 : Heap) (locs1 : List Loc), E1 k1 = .inl (cI, n1, .inl (va_cpy f g sp.toNatClampNeg dp.toNatClampNeg n.toNatClampNeg)) → (∀ q, q ≠ k1 → E1 q = E q) → fI D A H0 ad L E1 H1 locs1 → W p l e R s m args below meth c H1 locs1 cells slots Q (F0 m (pc + 3) ls rest)) : W p l e R s m args below meth c H locs cells slots Q (F0 m pc ls (.int n :: .int dp :: .ref a1 :: .int sp :: .ref a0 :: rest)) := by
  subst ha0
  subst ha1
  obtain ⟨q0, hi0⟩ := fW_get (ad := ad) (E := E) hk0
  obtain ⟨q1, hi1⟩ := fW_get (ad := ad) (E := E) hk1
  have hi2 := hi1
  rw [he0] at hi0
  rw [he1] at hi2
  refine va_copyi (ty := .int) hexec hb hml hown hlink hnat hstat hini hK hI.1 hI.2.1 hI.2.2 q0 q1 0 0 hi0 hi2 rfl rfl rfl h1 h2 h3 h4 h5 (fun _ _ => rfl) hframes hlocals hdg (fun H1 locs1 hP hD hS => ?_)
  rw [fW_set hI.2.1 hk1 hi1] at hP hD
  exact kk _ H1 locs1 (va_up_self _ _ _) (fun q hq => va_up_ne _ _ hq) ⟨hP, hD, hS⟩
theorem f_new {c0 : Code} (hexec : p.tables.exec = Jvm.exec) (hb : c0.code = cc) {own C : String} {T : u_T} {N ci index : Nat} {Ts : List Cond} (hts : ∀ w ∈ Ts, w.before args s = true) (hin : ∀ w ∈ u_ws C T N, w ∈ Ts) (ty : Nat → FieldType) (hty : ∀ k, k < N → parseFieldDescriptor (T k).2.2.1 = some (ty k)) (hown : s.vm.findClass own = some m.cls) (hcl : (Cond.classLink own index C).before args s = true) (hinst : (Cond.instantiable C N).before args s = true) (hini : (Cond.initialized C).before args s = true)
    (hK : va_K D vwCl tys s) (hI : fI D A H0 ad L E H locs) (hA : ∀ q, H0.size ≤ q → A q) (hc : vwCl[ci]? = some (C, T, N)) {fs : List Value} (hfs : ∀ j, j < N → defaultValue (ty j) = vp_V fs j) {k : Nat} (hk : k ∉ L) (hcells : cells + 1 ≤ R.cells) (hslots : slots + N ≤ R.slots) (hdg : decode cc pc = .ok (.new index, 3))
    (kk : ∀ (a : Nat) (ad1 : Nat → Nat) (E1 : Nat → va_E) (H1 : Heap), ad1 k = a → (∀ q, q ≠ k → ad1 q = ad q) → E1 k = .inr (ci, fs) → (∀ q, q ≠ k → E1 q = E q) → fI D A H0 ad1 (L ++ [k]) E1 H1 locs →
      W p l e R s m args below meth c0 H1 locs (cells + 1) (slots + N) Q (F0 m (pc + 3) ls (.ref a :: rest))) : W p l e R s m args below meth c0 H locs cells slots Q (F0 m pc ls rest) := by
  refine va_new hexec hb hts hin ty hty hown hcl hinst hini hK hI.1 hI.2.1 hI.2.2 hA hc hfs hcells hslots hdg (fun q H1 hP hD hS => ?_)
  rw [fW_push hk] at hP hD
  exact kk q _ _ H1 (va_up_self _ _ _) (fun q hq => va_up_ne _ _ hq) (va_up_self _ _ _) (fun q hq => va_up_ne _ _ hq) ⟨hP, hD, hS⟩
theorem f_newi (hexec : p.tables.exec = Jvm.exec) (hb : c.code = cc) (harr : (Cond.arrayClass .int).before args s = true) {cI cJ cB : ClassId} (hK : va_K D vwCl (fTys cI cJ cB) s) (hI : fI D A H0 ad L E H locs) (hA : ∀ q, H0.size ≤ q → A q) {n : Int32} {N : Nat} (hn : ¬ n < 0) (hN : n.toNatClampNeg = N) (hbytes : N * 4 ≤ 536870912) {k : Nat} (hk : k ∉ L) (hcells : cells + 1 ≤ R.cells) (hslots : slots + N ≤ R.slots) (hdg : decode cc pc = .ok (.newarray .int, 2))
    (kk : ∀ (a : Nat) (ad1 : Nat → Nat) (E1 : Nat → va_E) (H1 : Heap), ad1 k = a → (∀ q, q ≠ k → ad1 q = ad q) → E1 k = .inl (cI, N, .inl (fun _ => 0)) → (∀ q, q ≠ k → E1 q = E q) → fI D A H0 ad1 (L ++ [k]) E1 H1 locs →
      W p l e R s m args below meth c H1 locs (cells + 1) (slots + N) Q (F0 m (pc + 2) ls (.ref a :: rest))) : W p l e R s m args below meth c H locs cells slots Q (F0 m pc ls (.int n :: rest)) := by
  refine va_newa (atype := .int) (ty := .int) (a0 := (N, .inl (fun _ => 0))) hexec hb harr rfl hK hI.1 hI.2.1 hI.2.2 hA (fun cA => rfl) hn hN hbytes hcells hslots hdg (fun q cA H1 hK1 hP hD hS => ?_)
  have e1 : cA = cI := by
    have h1 := (hK1.2 3 (cA, .int) rfl).2
    have h2 := (hK.2 0 (cI, .int) rfl).2
    exact Option.some.inj (h1.symm.trans h2)
  subst e1
  rw [fW_push hk] at hP hD
  exact kk q _ _ H1 (va_up_self _ _ _) (fun q hq => va_up_ne _ _ hq) (va_up_self _ _ _) (fun q hq => va_up_ne _ _ hq) ⟨hP, hD, hS⟩
theorem f_aldA (hexec : p.tables.exec = Jvm.exec) (hb : c.code = cc) {cI cJ cB : ClassId} (hK : va_K D vwCl (fTys cI cJ cB) s) (hI : fI D A H0 ad L E H locs) {k a : Nat} (ha : ad k = a) (hk : k ∈ L) {n : Nat} {f : Nat → Option Nat} (he : E k = .inl (cJ, n, .inr (.inr (.inr (.inr f))))) {i : Int32} (hin : vp_in i n) {v : Value} (hv : va_rf (f i.toNatClampNeg) = v) (hdg : decode cc pc = .ok (.aaload, 1))
    (kk : W p l e R s m args below meth c H locs cells slots Q (F0 m (pc + 1) ls (v :: rest))) : W p l e R s m args below meth c H locs cells slots Q (F0 m pc ls (.int i :: .ref a :: rest)) := by
  subst ha
  subst hv
  obtain ⟨q, hi⟩ := fW_get (ad := ad) (E := E) hk
  rw [he] at hi
  have hlt : i.toNatClampNeg < n := Nat.not_le.mp fun h => hin (Or.inr h)
  exact W.aald (v := va_rf (f i.toNatClampNeg)) (ty := .array .int) hexec hb (hI.1 q _ hi) ((hK.2 1 _ rfl).1 n (fun j => va_rf (f j))) rfl (fun h => by cases h) (by show ¬ (i < 0 ∨ (arrV _ _ _).slots.size ≤ _); rw [arrV_size]; exact hin) (by show (arrV _ _ _).slots[_]? = _; rw [arrV_read _ _ hlt]) rfl rfl hdg kk
theorem f_astA (hexec : p.tables.exec = Jvm.exec) (hb : c.code = cc) {cI cJ cB : ClassId} (hK : va_K D vwCl (fTys cI cJ cB) s) (hO : va_AOA .int s) (hI : fI D A H0 ad L E H locs) {k a : Nat} (ha : ad k = a) (hk : k ∈ L) {n : Nat} {f : Nat → Option Nat} (he : E k = .inl (cJ, n, .inr (.inr (.inr (.inr f))))) {kv av : Nat} (hav : ad kv = av) (hkv : kv ∈ L) {nv : Nat} {fv : Nat → Int32} (hev : E kv = .inl (cI, nv, .inl fv)) {i : Int32} (hin : vp_in i n) (hdg : decode cc pc = .ok (.aastore, 1))
    (kk : ∀ (E1 : Nat → va_E) (H1 : Heap) (locs1 : List Loc), E1 k = .inl (cJ, n, .inr (.inr (.inr (.inr (va_up f i.toNatClampNeg (some av)))))) → (∀ q, q ≠ k → E1 q = E q) → fI D A H0 ad L E1 H1 locs1 → W p l e R s m args below meth c H1 locs1 cells slots Q (F0 m (pc + 1) ls rest)) : W p l e R s m args below meth c H locs cells slots Q (F0 m pc ls (.ref av :: .int i :: .ref a :: rest)) := by
  subst ha
  subst hav
  obtain ⟨q, hi⟩ := fW_get (ad := ad) (E := E) hk
  obtain ⟨qv, hiv⟩ := fW_get (ad := ad) (E := E) hkv
  have hi2 := hi
  rw [he] at hi2
  rw [hev] at hiv
  have hlt : i.toNatClampNeg < n := Nat.not_le.mp fun h => hin (Or.inr h)
  have h0 : ¬ i < 0 := fun h => hin (Or.inl h)
  have gV : H[ad kv]? = some (vp_cell cI (nv, .inl fv)) := hI.1 qv _ hiv
  obtain ⟨comp, cA2, kA, k3, -, k1, k2, k4⟩ := arrayOverA_spec (va_AOA.use (A := args) hO)
  have e1 : cJ = cA2 := Option.some.inj (((hK.2 1 _ rfl).2 : s.vm.findClass ("[" ++ (FieldType.array .int).toString) = some cJ).symm.trans k4)
  subst e1
  have e2 : comp = cI := Option.some.inj (k3.symm.trans (va_nm_int (hK.2 0 _ rfl).2))
  subst e2
  obtain ⟨kE, hkE, -⟩ := Vm.findClass_spec k3
  have hcl : (vp_cell comp (nv, .inl fv)).cls = comp := by rw [vp_cell_i]; rfl
  refine W.aast hexec hb (hI.1 q _ hi2) (fun q h => by cases h) (fun h => by cases h) k1 k2 rfl hkE ⟨h0, by show _ < (arrV _ _ _).slots.size; rw [arrV_size]; exact hlt⟩ gV (fun q h => by rw [vp_cell_i] at h; cases h) (by rw [hcl]; exact hkE) (by rw [hcl]; exact va_asg _ _) rfl rfl hdg fun H1 e z oq => ?_
  have hP := hI.1.set hI.2.1 hi2 (e := .inl (cJ, n, .inr (.inr (.inr (.inr (va_up f i.toNatClampNeg (some (ad kv)))))))) (by
    show H1[ad k]? = some (vp_cell _ _)
    rw [e]
    rw [vp_cell_q, vp_cell_q, arrV_store]
    congr 2
    funext j
    by_cases hj : j = i.toNatClampNeg
    · subst hj
      simp [updV, va_up, va_rf]
    · simp [updV, va_up, hj]) oq
  have hD := hI.2.1.set (e := .inl (cJ, n, .inr (.inr (.inr (.inr (va_up f i.toNatClampNeg (some (ad kv)))))))) hi2
  rw [fW_set hI.2.1 hk hi] at hP hD
  exact kk _ H1 _ (va_up_self _ _ _) (fun q hq => va_up_ne _ _ hq) ⟨hP, hD, hI.2.2.put z oq (hI.2.1.2 q _ hi2)⟩
theorem f_alenA (hexec : p.tables.exec = Jvm.exec) (hb : c.code = cc) {cI cJ cB : ClassId} (hK : va_K D vwCl (fTys cI cJ cB) s) (hI : fI D A H0 ad L E H locs) {k a : Nat} (ha : ad k = a) (hk : k ∈ L) {n : Nat} {f : Nat → Option Nat} (he : E k = .inl (cJ, n, .inr (.inr (.inr (.inr f))))) {v : Int32} (hv : Int32.ofNat n = v) (hdg : decode cc pc = .ok (.arraylength, 1))
    (kk : W p l e R s m args below meth c H locs cells slots Q (F0 m (pc + 1) ls (.int v :: rest))) : W p l e R s m args below meth c H locs cells slots Q (F0 m pc ls (.ref a :: rest)) := by
  subst ha
  obtain ⟨q, hi⟩ := fW_get (ad := ad) (E := E) hk
  rw [he] at hi
  exact va_alen (x := (n, .inr (.inr (.inr (.inr f))))) hexec hb hK hI.1 q 1 hi (ty := .array .int) rfl hv hdg kk
theorem f_newA (hexec : p.tables.exec = Jvm.exec) (hb : c.code = cc) {own : String} {index : Nat} (hown : s.vm.findClass own = some m.cls) (hclink : (Cond.classLink own index "[I").before args s = true) (hO : va_AOA .int s) {cI cJ cB : ClassId} (hK : va_K D vwCl (fTys cI cJ cB) s) (hI : fI D A H0 ad L E H locs) (hA : ∀ q, H0.size ≤ q → A q) {n : Int32} {N : Nat} (hn : ¬ n < 0) (hN : n.toNatClampNeg = N) (hbytes : N * 4 ≤ 536870912) {k : Nat} (hk : k ∉ L) (hcells : cells + 1 ≤ R.cells) (hslots : slots + N ≤ R.slots) (hdg : decode cc pc = .ok (.anewarray index, 3))
    (kk : ∀ (a : Nat) (ad1 : Nat → Nat) (E1 : Nat → va_E) (H1 : Heap), ad1 k = a → (∀ q, q ≠ k → ad1 q = ad q) → E1 k = .inl (cJ, N, .inr (.inr (.inr (.inr (fun _ => none))))) → (∀ q, q ≠ k → E1 q = E q) → fI D A H0 ad1 (L ++ [k]) E1 H1 locs →
      W p l e R s m args below meth c H1 locs (cells + 1) (slots + N) Q (F0 m (pc + 3) ls (.ref a :: rest))) : W p l e R s m args below meth c H locs cells slots Q (F0 m pc ls (.int n :: rest)) := by
  subst hN
  refine W.anewA (t := .int) hexec hb hown hclink (va_AOA.use hO) rfl hdg rfl hn hbytes hcells hslots fun cA kA comp f1 f2 f3 f4 => ?_
  have e1 : cA = cJ := Option.some.inj (f1.symm.trans (hK.2 1 _ rfl).2)
  subst e1
  generalize hH1 : H.push ({ cls := cA, slots := Array.replicate n.toNatClampNeg .null, vm := .none } : Cell) = H1
  have z1 : H1.size = H.size + 1 := by rw [← hH1, Array.size_push]
  have g1 : H1[H.size]? = some (arrV cA n.toNatClampNeg (fun _ => .null)) := by rw [← hH1, Array.getElem?_push_size, ← arrV_new]
  have o1 : ∀ q : Nat, q < H.size → H1[q]? = H[q]? := fun q hq => by rw [← hH1, Array.getElem?_push, if_neg (Nat.ne_of_lt hq)]
  have hP : va_P D vwCl (fW L ad E ++ [(H.size, .inl (cA, n.toNatClampNeg, .inr (.inr (.inr (.inr (fun _ => none))))))]) H1 := (hI.1.kept (fun q x hx => o1 x.1 ((hI.1 q x hx).lt))).app (fun q x hx => by
    have hz : q < 1 := (List.getElem?_eq_some_iff.mp hx).1
    rw [show q = 0 by omega] at hx
    cases hx
    show H1[H.size]? = some (vp_cell _ _)
    rw [vp_cell_q]
    exact g1)
  have hD : va_D A (fW L ad E ++ [(H.size, .inl (cA, n.toNatClampNeg, .inr (.inr (.inr (.inr (fun _ => none))))))]) := hI.2.1.push hI.1 rfl (hA _ hI.2.2.1)
  have hS : va_S A H0 H1 locs := ⟨Nat.le_trans hI.2.2.1 (by omega), fun x h1 h2 => (o1 x (Nat.lt_of_lt_of_le h1 hI.2.2.1)).trans (hI.2.2.2.1 x h1 h2), hI.2.2.2.2⟩
  rw [fW_push hk] at hP hD
  exact kk H.size _ _ H1 (va_up_self _ _ _) (fun q hq => va_up_ne _ _ hq) (va_up_self _ _ _) (fun q hq => va_up_ne _ _ hq) ⟨hP, hD, hS⟩
/-- what a call needs of the caller's world -/
theorem f_calli {z mc ms : Nat} {a : Array Value} {S : Type} {post : Int32 → S → Prop} {B : S → State → Prop} (hr : va_Run p l e R s m args below meth c H locs cells slots mc ms (F0 m pc ls st0) rest (va_Qi post B (fA z) a) (fA z)) (hS : va_S (fA z) H0 H locs)
    (kk : ∀ (r : Int32) (u : S) (t : State) (H1 : Heap) (locs1 : List Loc), t.heap = H1 → post r u → B u t → va_S (fA z) H0 H1 locs1 → W p l e R s m args below meth c H1 locs1 (cells + mc) (slots + ms) Q (F0 m (pc + 3) ls (.int r :: rest))) : W p l e R s m args below meth c H locs cells slots Q (F0 m pc ls st0) :=
  va_calli hr hS (fun q _ h => h) (fun q h => h) (fun r u t H1 locs1 ht _ hp hb _ _ hS1 => kk r u t H1 locs1 ht hp hb hS1)
theorem f_calli1 {z mc ms : Nat} {a : Array Value} {post : Int32 → (Nat → va_E) → Prop} (hr : va_Run p l e R s m args below meth c H locs cells slots mc ms (F0 m pc ls st0) rest (va_Qi post (fB D z ad L) (fA z) a) (fA z)) (hI : fI D (fA z) H0 ad L E H locs)
    (kk : ∀ (r : Int32) (E1 : Nat → va_E) (H1 : Heap) (locs1 : List Loc), post r E1 → fI D (fA z) H0 ad L E1 H1 locs1 → W p l e R s m args below meth c H1 locs1 (cells + mc) (slots + ms) Q (F0 m (pc + 3) ls (.int r :: rest))) : W p l e R s m args below meth c H locs cells slots Q (F0 m pc ls st0) :=
  f_calli hr hI.2.2 (fun r u t H1 locs1 ht hp hb hS1 => kk r u H1 locs1 hp ⟨by rw [← ht]; exact hb.1, hb.2, hS1⟩)
theorem f_calll1 {z mc ms : Nat} {a : Array Value} {post : Int64 → (Nat → va_E) → Prop} (hr : va_Run p l e R s m args below meth c H locs cells slots mc ms (F0 m pc ls st0) rest (va_Ql post (fB D z ad L) (fA z) a) (fA z)) (hI : fI D (fA z) H0 ad L E H locs)
    (kk : ∀ (r : Int64) (E1 : Nat → va_E) (H1 : Heap) (locs1 : List Loc), post r E1 → fI D (fA z) H0 ad L E1 H1 locs1 → W p l e R s m args below meth c H1 locs1 (cells + mc) (slots + ms) Q (F0 m (pc + 3) ls (.long r :: rest))) : W p l e R s m args below meth c H locs cells slots Q (F0 m pc ls st0) :=
  va_calll hr hI.2.2 (fun q _ h => h) (fun q h => h) (fun r u t H1 locs1 ht _ hp hb _ _ hS1 => kk r u H1 locs1 hp ⟨by rw [← ht]; exact hb.1, hb.2, hS1⟩)
theorem f_calld1 {z mc ms : Nat} {a : Array Value} {post : UInt64 → (Nat → va_E) → Prop} (hr : va_Run p l e R s m args below meth c H locs cells slots mc ms (F0 m pc ls st0) rest (va_Qd post (fB D z ad L) (fA z) a) (fA z)) (hI : fI D (fA z) H0 ad L E H locs)
    (kk : ∀ (r : UInt64) (E1 : Nat → va_E) (H1 : Heap) (locs1 : List Loc), post r E1 → fI D (fA z) H0 ad L E1 H1 locs1 → W p l e R s m args below meth c H1 locs1 (cells + mc) (slots + ms) Q (F0 m (pc + 3) ls (.double r :: rest))) : W p l e R s m args below meth c H locs cells slots Q (F0 m pc ls st0) :=
  va_calld hr hI.2.2 (fun q _ h => h) (fun q h => h) (fun r u t H1 locs1 ht _ hp hb _ _ hS1 => kk r u H1 locs1 hp ⟨by rw [← ht]; exact hb.1, hb.2, hS1⟩)
theorem f_callv1 {z mc ms : Nat} {a : Array Value} {post : (Nat → va_E) → Prop} (hr : va_Run p l e R s m args below meth c H locs cells slots mc ms (F0 m pc ls st0) rest (va_Qv post (fB D z ad L) (fA z) a) (fA z)) (hI : fI D (fA z) H0 ad L E H locs)
    (kk : ∀ (E1 : Nat → va_E) (H1 : Heap) (locs1 : List Loc), post E1 → fI D (fA z) H0 ad L E1 H1 locs1 → W p l e R s m args below meth c H1 locs1 (cells + mc) (slots + ms) Q (F0 m (pc + 3) ls rest)) : W p l e R s m args below meth c H locs cells slots Q (F0 m pc ls st0) :=
  va_callv hr hI.2.2 (fun q _ h => h) (fun q h => h) (fun u t H1 locs1 ht _ hp hb _ _ hS1 => kk u H1 locs1 hp ⟨by rw [← ht]; exact hb.1, hb.2, hS1⟩)
/-- a constructor: it gives a new address map and a longer list -/
theorem f_newq (hexec : p.tables.exec = Jvm.exec) (hb : c.code = cc) {own : String} {index : Nat} (hown : s.vm.findClass own = some m.cls) (hclink : (Cond.classLink own index RX0).before args s = true) (hover : va_AO RX0 s) {cI cJ cB : ClassId} (hK : va_K D vwCl (fTys cI cJ cB) s) (hI : fI D A H0 ad L E H locs) (hA : ∀ q, H0.size ≤ q → A q) {n : Int32} {N : Nat} (hn : ¬ n < 0) (hN : n.toNatClampNeg = N) (hbytes : N * 4 ≤ 536870912) {k : Nat} (hk : k ∉ L) (hcells : cells + 1 ≤ R.cells) (hslots : slots + N ≤ R.slots) (hdg : decode cc pc = .ok (.anewarray index, 3))
    (kk : ∀ (a : Nat) (ad1 : Nat → Nat) (E1 : Nat → va_E) (H1 : Heap), ad1 k = a → (∀ q, q ≠ k → ad1 q = ad q) → E1 k = .inl (cB, N, .inr (.inr (.inr (.inr (fun _ => none))))) → (∀ q, q ≠ k → E1 q = E q) → fI D A H0 ad1 (L ++ [k]) E1 H1 locs →
      W p l e R s m args below meth c H1 locs (cells + 1) (slots + N) Q (F0 m (pc + 3) ls (.ref a :: rest))) : W p l e R s m args below meth c H locs cells slots Q (F0 m pc ls (.int n :: rest)) := by
  refine va_newq (C := RX0) hexec hb hown hclink hover hK hI.1 hI.2.1 hI.2.2 hA hn hN hbytes hcells hslots hdg (fun q cA H1 hK1 hP hD hS => ?_)
  have e1 : cA = cB := by
    obtain ⟨kA, comp, -, -, -, h1⟩ := (hK1.2 3 (cA, .object RX0) rfl).2
    obtain ⟨kB, comp2, -, -, -, h2⟩ := (hK.2 2 (cB, .object RX0) rfl).2
    exact Option.some.inj (h1.symm.trans h2)
  subst e1
  rw [fW_push hk] at hP hD
  exact kk q _ _ H1 (va_up_self _ _ _) (fun q hq => va_up_ne _ _ hq) (va_up_self _ _ _) (fun q hq => va_up_ne _ _ hq) ⟨hP, hD, hS⟩
theorem f_callc {z mc ms : Nat} {a : Array Value} {L1 : List Nat} {post : (Nat → Nat) × (Nat → va_E) → Prop} (hr : va_Run p l e R s m args below meth c H locs cells slots mc ms (F0 m pc ls st0) rest (va_Qv post (fun u t => fB D z u.1 L1 u.2 t) (fA z) a) (fA z)) (hI : fI D (fA z) H0 ad L E H locs)
    (kk : ∀ (ad1 : Nat → Nat) (E1 : Nat → va_E) (H1 : Heap) (locs1 : List Loc), post (ad1, E1) → fI D (fA z) H0 ad1 L1 E1 H1 locs1 → W p l e R s m args below meth c H1 locs1 (cells + mc) (slots + ms) Q (F0 m (pc + 3) ls rest)) : W p l e R s m args below meth c H locs cells slots Q (F0 m pc ls st0) :=
  va_callv hr hI.2.2 (fun q _ h => h) (fun q h => h) (fun u t H1 locs1 ht _ hp hb _ _ hS1 => kk u.1 u.2 H1 locs1 hp ⟨by rw [← ht]; exact hb.1, hb.2, hS1⟩)
end FR
