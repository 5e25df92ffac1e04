/-! THROWING: contracts of methods that throw an ArithmeticException; contracts of methods that leave the heap as it is; the throw; the catch -/
def mm_QT (g : mm_G) (M : mm_M) : Array Value → State → Outcome → State → Prop := fun _ st o t => (∃ (x : Addr) (ce : Cell), o = .threw x ∧ t.heap[x]? = some ce ∧ ce.vm = .none ∧ st.vm.findClass "java/lang/ArithmeticException" = some ce.cls) ∧ mm_ok g M t.heap ∧ va_F (fun q => g.1 ≤ q) st t
/-- it threw; the tables are warmer; nothing has moved but the slots L and what is new -/
def mm_FT (st : State) (o : Outcome) (t : State) (L : List Loc) (k n : Nat) : Prop := (∃ x, o = .threw x) ∧ st.WarmedH t.vm ∧ st.sameButNew ({ t with vm := st.vm } : State) L k n
def CtT (l : Launch) (g : mm_G) (y : MethodName) (b : ByteArray) (n : Nat) (ret : Option FieldType) (rm : Room) (M : mm_M) (av : List Value) : Prop :=
  MetFree l y (headSpec (.code y b n ret :: GW) rm) (mm_Pc g M av) (fun _ _ _ _ _ => True) (fun a st o t => mm_QT g M a st o t ∧ ∃ L, mm_FT st o t L rm.cells rm.slots ∧ ∀ q ∈ L, g.1 ≤ q.base)
def MQT (below : List Frame) (g : mm_G) (M : mm_M) (args : Array Value) (s : State) (mc ms : Nat) : State → Prop := fun t => ∃ o, t.status = .running ∧ Ended t below o ∧ mm_QT g M args s o t ∧ ∃ L, mm_FT s o t L mc ms ∧ ∀ q ∈ L, g.1 ≤ q.base
theorem mm_enterT {l : Launch} {g : mm_G} {y : MethodName} {b : ByteArray} {n : Nat} {ret : Option FieldType} {rm : Room} {M : mm_M} {av : List Value} (hy : plainName y.cls = true) (hn : (lg_sl av).length ≤ n)
    (body : ∀ (p : Program) (e : Env) (s : State) (m : MethodId) (args : Array Value) (below : List Frame) (meth : Method) (c : Code) (ls : Array Slot) (Q : State → Prop), mm_C g p s m args c b y.cls → c.maxLocals = n → c.exceptionTable.isEmpty = true → meth.locks = false → mm_S g s M s.heap [] → lv_has ls n (lv_args 0 av) →
      Q = MQT below g M args s rm.cells rm.slots → W p l e rm s m args below meth c s.heap [] 0 0 Q (F0 m 0 ls [])) : CtT l g y b n ret rm M av := by
  refine MetFree.of_bodyS (code := b) (maxLocals := n) (ret := ret) hy ?_ ?_
  · intro args s m h hn
    obtain ⟨meth, c, h1, h2, h3, h4, h5, h6, -, -⟩ := Cond.code_spec hn (atoms_spec (ws := .code y b n ret :: GW) h _ List.mem_cons_self)
    exact ⟨meth, c, h1, h2, h3, h4, h5, h6⟩
  · intro p e s m args below meth c s₁ B hml hP _
    obtain ⟨rfl, hK, hM⟩ := hP
    have hts := atoms_spec (ws := .code y b n ret :: GW) B.pre
    have hh0 : s₁.heap = s.heap := by rw [B.state]; rfl
    have k : W p l e rm s m av.toArray below meth c s.heap [] 0 0 (MQT below g M av.toArray s rm.cells rm.slots) (entryFrame m av.toArray n) := by
      rw [lg_entry_eq]
      exact body p e s m _ below meth c _ _ ⟨B.exec, B.bytes, findClass_of_methodNamed B.named, fun w h => hts w (List.mem_cons_of_mem _ h), hK⟩ hml (B.noHandlers (hts _ List.mem_cons_self)) B.notSynchronized ⟨hM, hM.1, va_S.rf⟩ (lv_entry av hn) rfl
    obtain ⟨t, a1, o, b1, b2, b3⟩ := k s₁ hh0 (Stand.of_body B)
    exact ⟨t, o, a1, b1, b2, ⟨b3.1, b3.2⟩⟩
-- pure contracts
def QP (Post : Int32 → Prop) : Array Value → State → Outcome → State → Prop := fun _ st o t => ∃ r, o = .returned (some (.int r)) ∧ Post r ∧ t.heap = st.heap
def Cp (l : Launch) (g : mm_G) (y : MethodName) (b : ByteArray) (n : Nat) (ret : FieldType) (rm : Room) (M : mm_M) (av : List Value) (Post : Int32 → Prop) : Prop := Met l y (.code y b n (some ret) :: GW) rm (mm_Pc g M av) (QP Post) rm.cells rm.slots (fun _ => False)
theorem mm_enterP {l : Launch} {g : mm_G} {y : MethodName} {b : ByteArray} {n : Nat} {ret : FieldType} {rm : Room} {M : mm_M} {av : List Value} {Post : Int32 → Prop} (hy : plainName y.cls = true) (hn : (lg_sl av).length ≤ n)
    (body : ∀ (p : Program) (e : Env) (s : State) (m : MethodId) (args : Array Value) (below : List Frame) (meth : Method) (c : Code) (ls : Array Slot) (Q : State → Prop), mm_C g p s m args c b y.cls → c.maxLocals = n → meth.sig.returnType = some ret → meth.locks = false → mm_S g s M s.heap [] → lv_has ls n (lv_args 0 av) →
      Q = MQ below (QP Post) args s rm.cells rm.slots (fun _ => False) → W p l e rm s m args below meth c s.heap [] 0 0 Q (F0 m 0 ls [])) : Cp l g y b n ret rm M av Post := by
  refine Met.ofW (cc := b) (maxL := n) (ret := some ret) hy rfl ?_
  intro p e s m args below meth c s₁ B hml hv
  obtain ⟨rfl, hK, hM⟩ := hv
  have hts := atoms_spec (ws := .code y b n (some ret) :: GW) B.pre
  rw [lg_entry_eq]
  exact body p e s m _ below meth c _ _ ⟨B.exec, B.bytes, findClass_of_methodNamed B.named, fun w h => hts w (List.mem_cons_of_mem _ h), hK⟩ hml B.returns B.notSynchronized ⟨hM, hM.1, va_S.rf⟩ (lv_entry av hn) rfl
section TT
variable {p : Program} {l : Launch} {e : Env} {R : Room} {s : State} {m : MethodId} {args : Array Value} {below : List Frame} {meth : Method} {c : Code} {H : Heap} {locs : List Loc} {cells slots : Nat} {Q : State → Prop} {cc : ByteArray} {pc : Nat} {ls : Array Slot} {rest st0 : List Value} {g : mm_G} {M : mm_M} {own : String} {a : Nat}
theorem mm_zretP {Post : Int32 → Prop} (E : mm_C g p s m args c cc own) {ty : FieldType} (hr : meth.sig.returnType = some ty) (hlk : meth.locks = false) (eQ : Q = MQ below (QP Post) args s cells slots (fun _ => False)) {v : Int32} (hn : narrow ty (.int v) = .int v) (hdg : decode cc pc = .ok (.ireturn, 1)) (hp : Post v) : W p l e R s m args below meth c s.heap [] cells slots Q (F0 m pc ls [.int v]) := by
  subst eQ
  exact W.zret E.1 E.2.1 hr hn (fun t ht _ => ⟨v, rfl, hp, ht⟩) (fun q h => absurd h List.not_mem_nil) hdg hlk
theorem mm_iretP {Post : Int32 → Prop} (E : mm_C g p s m args c cc own) (hr : meth.sig.returnType = some .int) (hlk : meth.locks = false) (eQ : Q = MQ below (QP Post) args s cells slots (fun _ => False)) {v : Int32} (hdg : decode cc pc = .ok (.ireturn, 1)) (hp : Post v) : W p l e R s m args below meth c s.heap [] cells slots Q (F0 m pc ls [.int v]) := by
  subst eQ
  exact W.iret E.1 E.2.1 hr (fun t ht _ => ⟨v, rfl, hp, ht⟩) (fun q h => absurd h List.not_mem_nil) hdg hlk
theorem mm_runVP {Post : Int32 → Prop} (E : mm_C g p s m args c cc own) (hZ : mm_S g s M H locs) {nL : Nat} (hml : c.maxLocals = nL) (hsize : ls.size = nL) {y : MethodName} {b : ByteArray} {n index : Nat} {ret : FieldType} {rm : Room} {As : List Value} (hL : mm_lk own index y) (hY : mm_me y b n (some ret) As.length) (hI : Cond.instanceMethod y ∈ GW ∧ Cond.selects y.cls y y ∈ GW) (hC : Cp l g y b n ret rm M (.ref a :: As) Post) {ci N : Nat} {T : u_T} {fs : List Value} {t : Nat} (hM : M a = some (ob t ci fs)) (hc : classes[ci]? = some (y.cls, T, N)) (hR : rm.frames + 1 ≤ R.frames ∧ 8 + (n + 11) + rm.locals ≤ R.locals) (hst : st0 = As.reverse ++ .ref a :: rest) (hW : (rest.map fun v => v.category).sum ≤ 8) (hdg : decode cc pc = .ok (.invokevirtual index, 3)) (hf : cells + rm.cells ≤ R.cells ∧ slots + rm.slots ≤ R.slots) :
    va_Run p l e R s m args below meth c H locs cells slots rm.cells rm.slots (F0 m pc ls st0) rest (QP Post (Value.ref a :: As).toArray) (fun _ => False) := by
  have hp : PreV s H y.cls a (mm_Pc g M (.ref a :: As)) As := ⟨mm_blind, va_recv E.2.2.2.2.1 (mm_at hZ hM) hc (q0 := 0) rfl, fun U hU hW => ⟨rfl, E.2.2.2.2.warm hW hZ.2.2 hU, by rw [hU]; exact hZ.1⟩⟩
  rcases hL with hL | ⟨host, hL⟩
  · exact va_runV (C := y.cls) ⟨E.1, E.2.1, hml, E.2.2.1, E.2.2.2.1⟩ hC ⟨callB_of As.length E.2.2.2.1 (gw_code hY.1) rfl rfl rfl (E.2.2.2.1 _ hY.2.1) (E.2.2.2.1 _ hL) hY.2.2 hR, E.2.2.2.1 _ hI.1, E.2.2.2.1 _ hI.2⟩ hp rfl rfl hsize hst (lv_room hW) hdg hf
  · exact va_runVN (C := y.cls) ⟨E.1, E.2.1, hml, E.2.2.1, E.2.2.2.1⟩ hC ⟨va_cnB As.length E.2.2.2.1 (gw_code hY.1) rfl rfl rfl (E.2.2.2.2.2.1 _ hL) (E.2.2.2.1 _ hY.2.1) hY.2.2 hR, E.2.2.2.1 _ hI.1, E.2.2.2.1 _ hI.2⟩ hp rfl rfl hsize hst (lv_room hW) hdg hf
theorem mm_runSP {Post : Int32 → Prop} (E : mm_C g p s m args c cc own) (hZ : mm_S g s M H locs) {nL : Nat} (hml : c.maxLocals = nL) (hsize : ls.size = nL) {y : MethodName} {b : ByteArray} {n index : Nat} {ret : FieldType} {rm : Room} {As : List Value} (hL : mm_lk own index y) (hY : mm_me y b n (some ret) As.length) (hI : Cond.static y ∈ GW) (hC : Cp l g y b n ret rm M As Post) (hR : rm.frames + 1 ≤ R.frames ∧ 8 + (n + 11) + rm.locals ≤ R.locals) (hst : st0 = As.reverse ++ rest) (hW : (rest.map fun v => v.category).sum ≤ 8) (hdg : decode cc pc = .ok (.invokestatic index, 3)) (hf : cells + rm.cells ≤ R.cells ∧ slots + rm.slots ≤ R.slots) :
    va_Run p l e R s m args below meth c H locs cells slots rm.cells rm.slots (F0 m pc ls st0) rest (QP Post As.toArray) (fun _ => False) := by
  have hp : PreS s H (mm_Pc g M As) As := ⟨mm_blind, fun U hU hW => ⟨rfl, E.2.2.2.2.warm hW hZ.2.2 hU, by rw [hU]; exact hZ.1⟩⟩
  rcases hL with hL | ⟨host, hL⟩
  · exact va_runS ⟨E.1, E.2.1, hml, E.2.2.1, E.2.2.2.1⟩ hC ⟨callB_of As.length E.2.2.2.1 (gw_code hY.1) rfl rfl rfl (E.2.2.2.1 _ hY.2.1) (E.2.2.2.1 _ hL) hY.2.2 hR, E.2.2.2.1 _ hI⟩ hp rfl rfl hsize hst (lv_room hW) hdg hf
  · exact va_runSN ⟨E.1, E.2.1, hml, E.2.2.1, E.2.2.2.1⟩ hC ⟨va_cnB As.length E.2.2.2.1 (gw_code hY.1) rfl rfl rfl (E.2.2.2.2.2.1 _ hL) (E.2.2.2.1 _ hY.2.1) hY.2.2 hR, E.2.2.2.1 _ hI, trivial⟩ hp rfl rfl hsize hst (lv_room hW) hdg hf
theorem mm_callP {mc ms : Nat} {av : Array Value} {Post : Int32 → Prop} (hr : va_Run p l e R s m args below meth c H locs cells slots mc ms (F0 m pc ls st0) rest (QP Post av) (fun _ => False))
    (kk : ∀ r : Int32, Post r → W p l e R s m args below meth c H locs (cells + mc) (slots + ms) Q (F0 m (pc + 3) ls (.int r :: rest))) : W p l e R s m args below meth c H locs cells slots Q (F0 m pc ls st0) := by
  intro T hT X
  obtain ⟨v, st₀, t, T', L, h0, X', hL, e1, e2, ⟨r, hv, hp, hh⟩, st⟩ := hr T hT X
  cases hv
  have hL0 : L = [] := by
    cases L with
    | nil => rfl
    | cons q L => exact (hL q List.mem_cons_self).elim
  subst hL0
  rw [List.append_nil] at X'
  obtain ⟨t2, a1, b1⟩ := kk r hp T' (by rw [e1, hh, h0]) X'
  exact ⟨t2, st t2 a1, b1⟩
end TT
-- the throw
theorem same_heap {s t : State} {k n : Nat} (h : s.sameButNew t [] k n) {a : Nat} (ha : a < s.heap.size) : t.heap[a]? = s.heap[a]? := by
  obtain ⟨-, -, -, -, -, h⟩ := h
  have hc : s.heap[a]? = some s.heap[a] := Array.getElem?_eq_getElem ha
  obtain ⟨c', h1, h2, h3, h4⟩ := h a _ hc
  have h5 : c'.slots = s.heap[a].slots := Array.ext_getElem? (fun i => h4 i List.not_mem_nil)
  rw [h1, hc, h2, h5]
theorem ae_A {p : Program} {s : State} {m : MethodId} {args : Array Value} {c : Code} {cc : ByteArray} {g : mm_G} {own : String} (E : mm_C g p s m args c cc own) (hs1 : mm_St1 g s) (hs2 : mm_St2 g s) : ∀ w ∈ Bundle.throwableAtoms, w.before args s = true := (List.forall_mem_cons.mpr ⟨(E.2.2.2.1 _ w_20), (List.forall_mem_cons.mpr ⟨(E.2.2.2.1 _ w_560), (List.forall_mem_cons.mpr ⟨(E.2.2.2.1 _ w_569), (List.forall_mem_cons.mpr ⟨(E.2.2.2.1 _ w_571), (List.forall_mem_cons.mpr ⟨(E.2.2.2.1 _ w_574), (List.forall_mem_cons.mpr ⟨(E.2.2.2.1 _ w_576), (List.forall_mem_cons.mpr ⟨(E.2.2.2.1 _ w_561), (List.forall_mem_cons.mpr ⟨(E.2.2.2.1 _ w_562), (List.forall_mem_cons.mpr ⟨(E.2.2.2.1 _ w_30), (List.forall_mem_cons.mpr ⟨(E.2.2.2.1 _ w_31), (List.forall_mem_cons.mpr ⟨(E.2.2.2.1 _ w_563), (List.forall_mem_cons.mpr ⟨(E.2.2.2.1 _ w_568), (List.forall_mem_cons.mpr ⟨(E.2.2.2.1 _ w_572), (List.forall_mem_cons.mpr ⟨(E.2.2.2.1 _ w_592), (List.forall_mem_cons.mpr ⟨(E.2.2.2.1 _ w_550), (List.forall_mem_cons.mpr ⟨(E.2.2.2.1 _ w_593), (List.forall_mem_cons.mpr ⟨(E.2.2.2.1 _ w_552), (List.forall_mem_cons.mpr ⟨(E.2.2.2.1 _ w_594), (List.forall_mem_cons.mpr ⟨(E.2.2.2.1 _ w_554), (List.forall_mem_cons.mpr ⟨(E.2.2.2.1 _ w_564), (List.forall_mem_cons.mpr ⟨hs1.lays, (List.forall_mem_cons.mpr ⟨(E.2.2.2.1 _ w_566), (List.forall_mem_cons.mpr ⟨hs2.lays, (List.forall_mem_cons.mpr ⟨(E.2.2.2.1 _ w_556), (List.forall_mem_nil _)⟩)⟩)⟩)⟩)⟩)⟩)⟩)⟩)⟩)⟩)⟩)⟩)⟩)⟩)⟩)⟩)⟩)⟩)⟩)⟩)⟩)⟩)⟩)⟩)
theorem ae_B {p : Program} {s : State} {m : MethodId} {args : Array Value} {c : Code} {cc : ByteArray} {g : mm_G} {own : String} (E : mm_C g p s m args c cc own) : ∀ w ∈ Bundle.throwableSAtoms, w.before args s = true := (List.forall_mem_cons.mpr ⟨(E.2.2.2.1 _ w_588), (List.forall_mem_cons.mpr ⟨(E.2.2.2.1 _ w_589), (List.forall_mem_cons.mpr ⟨(E.2.2.2.1 _ w_591), (List.forall_mem_cons.mpr ⟨(E.2.2.2.1 _ w_556), (List.forall_mem_nil _)⟩)⟩)⟩)⟩)
theorem ae_C {p : Program} {s : State} {m : MethodId} {args : Array Value} {c : Code} {cc : ByteArray} {g : mm_G} {own : String} (E : mm_C g p s m args c cc own) : ∀ w ∈ Bundle.chainSAtoms "java/lang/ArithmeticException" ["java/lang/RuntimeException", "java/lang/Exception"], w.before args s = true := List.forall_mem_append.mpr ⟨(List.forall_mem_cons.mpr ⟨(E.2.2.2.1 _ w_579), (List.forall_mem_cons.mpr ⟨(E.2.2.2.1 _ w_580), (List.forall_mem_cons.mpr ⟨(E.2.2.2.1 _ w_581), (List.forall_mem_cons.mpr ⟨(E.2.2.2.1 _ w_582), (List.forall_mem_cons.mpr ⟨(va_Nw.use rfl (E.2.2.2.2.2.1 _ w_542)), (List.forall_mem_nil _)⟩)⟩)⟩)⟩)⟩), List.forall_mem_append.mpr ⟨(List.forall_mem_cons.mpr ⟨(E.2.2.2.1 _ w_582), (List.forall_mem_cons.mpr ⟨(E.2.2.2.1 _ w_583), (List.forall_mem_cons.mpr ⟨(E.2.2.2.1 _ w_584), (List.forall_mem_cons.mpr ⟨(E.2.2.2.1 _ w_585), (List.forall_mem_cons.mpr ⟨(va_Nw.use rfl (E.2.2.2.2.2.1 _ w_544)), (List.forall_mem_nil _)⟩)⟩)⟩)⟩)⟩), (List.forall_mem_cons.mpr ⟨(E.2.2.2.1 _ w_585), (List.forall_mem_cons.mpr ⟨(E.2.2.2.1 _ w_586), (List.forall_mem_cons.mpr ⟨(E.2.2.2.1 _ w_587), (List.forall_mem_cons.mpr ⟨(E.2.2.2.1 _ w_588), (List.forall_mem_cons.mpr ⟨(va_Nw.use rfl (E.2.2.2.2.2.1 _ w_546)), (List.forall_mem_nil _)⟩)⟩)⟩)⟩)⟩)⟩⟩
theorem ae_atoms {p : Program} {s : State} {m : MethodId} {args : Array Value} {c : Code} {cc : ByteArray} {g : mm_G} {own : String} (E : mm_C g p s m args c cc own) : ∀ w ∈ Bundle.ownAtoms "ExpectRows" 141 "java/lang/ArithmeticException" ["java/lang/RuntimeException", "java/lang/Exception"], w.before args s = true := by
  have hs1 := E.2.2.2.2.2.2.2.2.2.2.2.2.1
  have hs2 := E.2.2.2.2.2.2.2.2.2.2.2.2.2
  exact List.forall_mem_append.mpr ⟨List.forall_mem_append.mpr ⟨List.forall_mem_append.mpr ⟨ae_A E hs1 hs2, ae_B E⟩, ae_C E⟩, (List.forall_mem_cons.mpr ⟨(E.2.2.2.1 _ w_578), (List.forall_mem_cons.mpr ⟨(E.2.2.2.1 _ w_539), (List.forall_mem_cons.mpr ⟨(va_Nw.use rfl (E.2.2.2.2.2.1 _ w_540)), (List.forall_mem_cons.mpr ⟨(E.2.2.2.1 _ w_547), (List.forall_mem_cons.mpr ⟨(E.2.2.2.1 _ w_548), (List.forall_mem_cons.mpr ⟨(E.2.2.2.1 _ w_549), (List.forall_mem_cons.mpr ⟨(E.2.2.2.1 _ w_551), (List.forall_mem_cons.mpr ⟨(E.2.2.2.1 _ w_553), (List.forall_mem_cons.mpr ⟨(E.2.2.2.1 _ w_555), (List.forall_mem_cons.mpr ⟨hs1.isRef, (List.forall_mem_cons.mpr ⟨hs2.isRef, (List.forall_mem_cons.mpr ⟨(E.2.2.2.1 _ w_559), (List.forall_mem_cons.mpr ⟨(E.2.2.2.1 _ w_558), (List.forall_mem_cons.mpr ⟨(E.2.2.2.1 _ w_557), (List.forall_mem_nil _)⟩)⟩)⟩)⟩)⟩)⟩)⟩)⟩)⟩)⟩)⟩)⟩)⟩)⟩)⟩
theorem mm_throwAE {p : Program} {l : Launch} {e : Env} {R : Room} {s : State} {m : MethodId} {args : Array Value} {below : List Frame} {meth : Method} {c : Code} {Q : State → Prop} {cc : ByteArray} {pc : Nat} {ls : Array Slot} {g : mm_G} {M : mm_M} {nL : Nat} (hst : l.stackTraces = false) (E : mm_C g p s m args c cc "ExpectRows") (hZ : mm_S g s M s.heap []) (hne : c.exceptionTable.isEmpty = true) (hlk : meth.locks = false) (hml : c.maxLocals = nL) (hsz : ls.size = nL)
    (d0 : decode cc pc = .ok (.new 137, 3)) (d1 : decode cc (pc + 3) = .ok (.dup, 1)) (d2 : decode cc (pc + 4) = .ok (.ldc 139, 2)) (d3 : decode cc (pc + 6) = .ok (.invokespecial 141, 3)) (d4 : decode cc (pc + 9) = .ok (.athrow, 1)) (hRf : 6 ≤ R.frames) (hRl : 82 ≤ R.locals) (hRc : 1 ≤ R.cells) (hRs : 6 ≤ R.slots) (eQ : Q = MQT below g M args s 1 6) : W p l e R s m args below meth c s.heap [] 0 0 Q (F0 m pc ls []) := by
  subst eQ
  refine W.newc E.1 E.2.1 E.2.2.1 (E.2.2.2.1 _ w_538) (E.2.2.2.1 _ w_539) (E.2.2.2.1 _ w_23) rfl d0 (by omega) (by omega) fun cX kX hfX hkX hord hn6 => ?_
  refine lv_dup E.1 E.2.1 d1 rfl ?_
  refine va_ldcS E.1 E.2.1 E.2.2.1 E.2.2.2.2.2.2.2.2.2.1 d2 ?_
  intro T hT X
  have htr : e.platform.stackTraces = false := by rw [X.admits.platform]; exact hst
  obtain ⟨U, hsteps, hrun, hend, hW, hsame, ce, hce, hoc⟩ := X.ctorThrowS E.1 htr (own := "ExpectRows") (cls := "java/lang/ArithmeticException") (names := ["java/lang/RuntimeException", "java/lang/Exception"]) (ic := 141) E.2.2.1 (by decide) (by decide) (ae_atoms E) (fun x h => absurd h List.not_mem_nil) hfX hkX (a := s.heap.size) (by rw [hT, Array.getElem?_push_size]) (Nat.le_refl _) (msg := .ref (g_tx g)) rfl (g := F0 m (pc + 6) ls [.ref (g_tx g), .ref s.heap.size, .ref s.heap.size]) rfl (hsz.trans hml.symm) rfl rfl (rest := []) rfl (by rw [E.2.1]; exact d3) (by rw [E.2.1]; exact d4) (fun x hx => by
    rw [Array.isEmpty_iff] at hne
    rw [hne] at hx
    exact absurd hx List.not_mem_nil) (by show 2 + 3 < R.frames; omega) (by show 2 * 0 + 1 + 81 ≤ R.locals; omega) hlk
  have hh : ∀ a : Nat, a < s.heap.size → U.heap[a]? = s.heap[a]? := fun a ha => same_heap hsame ha
  have hle : s.heap.size ≤ U.heap.size := hsame.2.1
  exact ⟨U, hsteps, .threw s.heap.size, hrun, hend, ⟨⟨_, ce, rfl, hce, hoc.vm, hoc.cls⟩, ⟨Nat.le_trans hZ.1.1 hle, fun a x hM => ⟨(hZ.1.2 a x hM).1, (hZ.1.2 a x hM).2.kept (hh a (hZ.1.lt hM))⟩⟩, hle, fun q hq _ => hh q hq⟩, [], ⟨⟨_, rfl⟩, hW, hsame⟩, fun q h => absurd h List.not_mem_nil⟩
-- a method with a table of handlers; the catch
def CtW (l : Launch) (g : mm_G) (y : MethodName) (b : ByteArray) (n : Nat) (ret : Option FieldType) (hh : List (Nat × Nat × Nat × Nat)) (rm : Room) (M : mm_M) (av : List Value) (Post : Option Value → mm_M → Prop) : Prop :=
  Met l y (.codeWith y b n ret hh :: GW) rm (mm_Pc g M av) (mm_Q g Post) rm.cells rm.slots (fun q => g.1 ≤ q)
theorem mm_enterW {l : Launch} {g : mm_G} {y : MethodName} {b : ByteArray} {n : Nat} {ret : Option FieldType} {hh : List (Nat × Nat × Nat × Nat)} {rm : Room} {M : mm_M} {av : List Value} {Post : Option Value → mm_M → Prop} (hy : plainName y.cls = true) (hn : (lg_sl av).length ≤ n)
    (body : ∀ (p : Program) (e : Env) (s : State) (m : MethodId) (args : Array Value) (below : List Frame) (meth : Method) (c : Code) (ls : Array Slot) (Q : State → Prop), mm_C g p s m args c b y.cls → c.maxLocals = n → meth.sig.returnType = ret → meth.locks = false → c.exceptionTable.toList = tableOf hh → mm_S g s M s.heap [] → lv_has ls n (lv_args 0 av) →
      Q = MQ below (mm_Q g Post) args s rm.cells rm.slots (fun q => g.1 ≤ q) → W p l e rm s m args below meth c s.heap [] 0 0 Q (F0 m 0 ls [])) : CtW l g y b n ret hh rm M av Post := by
  refine va_MetW (cc := b) (maxL := n) (ret := ret) (hh := hh) hy rfl ?_
  intro p e s m args below meth c s₁ B hml hv
  obtain ⟨rfl, hK, hM⟩ := hv
  have hts := atoms_spec (ws := .codeWith y b n ret hh :: GW) B.pre
  obtain ⟨m9, meth9, c9, hn9, hm9, hc9, -, -, ht9, -⟩ := Cond.codeWith_spec (hts _ List.mem_cons_self)
  cases B.named.symm.trans hn9
  cases B.method.symm.trans hm9
  cases (Stand.of_body B).code.symm.trans hc9
  rw [lg_entry_eq]
  exact body p e s m _ below meth c _ _ ⟨B.exec, B.bytes, findClass_of_methodNamed B.named, fun w h => hts w (List.mem_cons_of_mem _ h), hK⟩ hml B.returns B.notSynchronized (by rw [← ht9, table_eq]) ⟨hM, hM.1, va_S.rf⟩ (lv_entry av hn) rfl
section TC
variable {p : Program} {l : Launch} {e : Env} {R : Room} {s : State} {m : MethodId} {args : Array Value} {below : List Frame} {meth : Method} {c : Code} {H : Heap} {locs : List Loc} {cells slots : Nat} {Q : State → Prop} {cc : ByteArray} {pc : Nat} {ls : Array Slot} {rest st0 : List Value} {g : mm_G} {M : mm_M} {own : String} {a : Nat}
/-- a static call of a method with a table of handlers -/
theorem mm_runSW {Post : Option Value → mm_M → Prop} (E : mm_C g p s m args c cc own) (hZ : mm_S g s M H locs) {nL : Nat} (hml : c.maxLocals = nL) (hsize : ls.size = nL) {y : MethodName} {b : ByteArray} {n index : Nat} {ret : Option FieldType} {hh : List (Nat × Nat × Nat × Nat)} {rm : Room} {As : List Value} (hL : Cond.methodLink own index y ∈ GW) (hcw : Cond.codeWith y b n ret hh ∈ GW) (hini : Cond.initialized y.cls ∈ GW) (hd : y.cls ≠ "java/lang/invoke/MethodHandle" ∧ y.cls ≠ "java/lang/invoke/VarHandle" ∧ (parseMethodDescriptor y.desc).map (fun d => d.parameters.length) = some As.length) (hI : Cond.static y ∈ GW) (hC : CtW l g y b n ret hh rm M As Post) (hR : rm.frames + 1 ≤ R.frames ∧ 8 + (n + 11) + rm.locals ≤ R.locals) (hst : st0 = As.reverse ++ rest) (hW : (rest.map fun v => v.category).sum ≤ 8) (hdg : decode cc pc = .ok (.invokestatic index, 3)) (hf : cells + rm.cells ≤ R.cells ∧ slots + rm.slots ≤ R.slots) :
    va_Run p l e R s m args below meth c H locs cells slots rm.cells rm.slots (F0 m pc ls st0) rest (mm_Q g Post As.toArray) (fun q => g.1 ≤ q) := by
  have hgood : GoodIn GW (.codeWith y b n ret hh :: GW) := fun w hw => by
    rcases List.mem_cons.mp hw with rfl | hw
    · exact gw_good _ hcw
    · exact gw_good _ hw
  have hK : Back l R p e below s args y 3 8 (PreOf R rm.cells rm.slots (mm_Pc g M As)) (PostOf (mm_Q g Post) rm.cells rm.slots (fun q => g.1 ≤ q)) :=
    va_backW (hh := hh) (bytes := b) (maxL := n) (ret := ret) hC mm_blind rfl rfl hR.1 hR.2 (pay_in E.2.2.2.1 hgood) List.mem_cons_self (fun a' U hW => word_at hW (Or.inl (by first | rfl | simp [Cond.onTables, Cond.keeps, Cond.steady])) (E.2.2.2.1 _ hini))
  intro T hT X
  obtain ⟨mk, methM, cM, hnamed, hmethM, -, -, -, -, -, -, hsigM⟩ := Cond.codeWith_spec (E.2.2.2.1 _ hcw)
  have hstatic : methM.isStatic = true := Cond.static_spec hnamed hmethM (E.2.2.2.1 _ hI)
  obtain ⟨kP, hkP, -⟩ := className_of_methodNamed hnamed
  have hinitP : kP.init = .initialized := Cond.initialized_spec (findClass_of_methodNamed hnamed) hkP (E.2.2.2.1 _ hini)
  have hlen : As.length = methM.sig.parameters.length := by
    have h2 := hd.2.2
    rw [hsigM] at h2
    exact (Option.some.inj h2).symm
  obtain ⟨vm₁, X₁, hstep₁⟩ := X.invokestatic E.1 E.2.2.1 (E.2.2.2.1 _ hL) hnamed hmethM hstatic hkP hinitP ⟨hd.1, hd.2.1⟩ (g := F0 m pc ls st0) rfl (argsL := As) (rest := rest) hlen hst (by rw [E.2.1]; exact hdg)
  obtain ⟨v, ⟨U', l2, c2, s2⟩, X', ⟨g', mk', t, L, e1, e2, hq, h1, hL, h2, h3⟩, hsteps⟩ := hK m meth c ⟨T.setVm vm₁, locs, cells, slots⟩ { F0 m pc ls st0 with stack := rest } (.invokestatic index) mk As.toArray X₁ rfl (hsize.trans hml.symm) (by rw [E.2.1]; exact hdg) (lv_room (m := m) (pc := pc) (ls := ls) (rest := rest) hW) (X₁.named hnamed) ⟨hf.1, hf.2, rfl, E.2.2.2.2.warm X₁.warmed hZ.2.2 hT, by show mm_ok g M T.heap; rw [hT]; exact hZ.1⟩
  dsimp only [Pt.U, Pt.locs, Pt.cells, Pt.slots] at X' e1 e2 h1 h2 h3 hsteps
  subst h1; subst h2; subst h3
  exact ⟨v, (T.setVm vm₁).calling g' mk' As.toArray, t, U', L, hT, X', hL, e1, e2, hq, fun target h => hstep₁ _ fun acts => by rw [doInvoke_state]; exact hsteps.trans h⟩
/-- the search for a handler through a table of one row that names a class not yet resolved -/
theorem mm_find {e : Env} {S : State} {f : JFrame} {x0 : Addr} {meth : Method} {c : Code} {x : ExceptionTableEntry} {cT : ClassId} {cell : Cell} (hm : S.vm.method? f.method = some meth) (hc : meth.code = some c) (htab : c.exceptionTable.toList = [x]) (hx : covers x f.pc = true) (h0 : x.catchType ≠ 0)
    (hl : S.vm.ClassLinks e.platform f.method.cls x.catchType cT) (hcell : S.heap[x0]? = some cell) (hobj : ∀ k, cell.vm ≠ .statics k) (hfit : S.vm.assignable cell.cls cT = true) {Q : Handler → Pre} {E : CtlPost} {d : Bool} {acts : List Action} :
    wp (findHandler f x0) Q E e d acts S ↔ Q (.found x.handlerPc) d acts (S.setVm (S.vm.noted f.method.cls x.catchType (.cls cT))) := by
  rw [W.findHandler_eq hm hc, htab]
  simp only [covers] at hx
  obtain ⟨r1, r2⟩ := (resolveClass_links e.toSetting hl).op (op := VmOp.resolveClass f.method.cls x.catchType) rfl
  have hal : S.vm.Alike (S.vm.noted f.method.cls x.catchType (.cls cT)) := (Vm.Alike.refl S.vm).noted _ _ _
  obtain ⟨dk, _, _, kt, _, _, _, _, _, hkt, _, _⟩ := hl.here
  obtain ⟨ko, hko⟩ := Vm.classAt_of_assignable hfit ⟨kt, hkt⟩
  obtain ⟨k1, hk1, -⟩ := hal.2.2 _ _ hko
  obtain ⟨k2, hk2, -⟩ := hal.2.2 _ _ hkt
  have hfit2 : (S.vm.noted f.method.cls x.catchType (.cls cT)).assignable cell.cls cT = true := by rw [hal.assignable]; exact hfit
  simp [findHandler.go, hx, h0, r1, r2, hcell, hobj, hk1, hk2, hfit2, VmOp.dirties, VmOp.acts]
theorem mm_caught {p : Program} {l : Launch} {e : Env} {R : Room} {s : State} {m : MethodId} {args : Array Value} {below : List Frame} {meth : Method} {c : Code} {locs : List Loc} {cells slots : Nat} {T : State} (X : Stand p l e R s m args below meth c T locs cells slots) (x0 : Addr) {g : JFrame} (hg : g.method = m) {cell : Cell} (hcell : T.heap[x0]? = some cell) (hobj : cell.vm.isStatics = false) {x : ExceptionTableEntry} (htab : c.exceptionTable.toList = [x]) (hx : covers x g.pc = true) (h0 : x.catchType ≠ 0)
    {cT : ClassId} (hl : s.vm.ClassLinks e.platform m.cls x.catchType cT) (hfit : s.vm.assignable cell.cls cT = true) :
    ∃ vm', Stand p l e R s m args below meth c (T.setVm vm') locs cells slots ∧ ∀ target, Steps p.tables e below ((T.setVm vm').setTop { g with pc := x.handlerPc, stack := [.ref x0] }) target → Steps p.tables e below ((T.setTop g).pushFrame (.throwing x0)) target := by
  subst hg
  obtain ⟨dk, _, _, kt, hd, _, _, _, _, hkt, _, hopen⟩ := hl.here
  have hW := X.warmed
  refine ⟨_, X.noted (hW.noted hd hopen (State.rightAt_cls hl)), fun target hrest => ?_⟩
  obtain ⟨hgo, hw⟩ := X.here.throwing x0
  refine Steps.head hgo hw ?_
  have hstep : (stepThrowing e ((T.setTop g).pushFrame (.throwing x0)) x0 (.java g :: T.frames.tail)).1 = (((T.setTop g).pushFrame (.throwing x0)).setVm (T.vm.noted g.method.cls x.catchType (.cls cT))).setFrames (.java { g with pc := x.handlerPc, stack := [.ref x0] } :: T.frames.tail) := by
    simp only [stepThrowing, searchFrame, vmDo]
    generalize hr : Sem.go _ e false [] ((T.setTop g).pushFrame (.throwing x0)) = res
    obtain ⟨as, rfl, _⟩ := Sem.eq_ok_of hr (a := Handler.found x.handlerPc) (s' := ((T.setTop g).pushFrame (.throwing x0)).setVm (T.vm.noted g.method.cls x.catchType (.cls cT))) (acts' := []) (by
      have hf := fun Q E d acts => mm_find (e := e) (S := (T.setTop g).pushFrame (.throwing x0)) (f := g) (x0 := x0) (meth := meth) (c := c) (cT := cT) (cell := cell) (Q := Q) (E := E) (d := d) (acts := acts) X.method' X.code htab hx h0 (hW.classLinks hl) hcell (VmData.ne_statics_of hobj) (by show T.vm.assignable _ _ = true; rw [hW.alike.assignable]; exact hfit)
      have hv : ((T.setTop g).pushFrame (.throwing x0)).vm = T.vm := Stand.throwing_vm T g x0
      rw [hv] at hf
      simp [hf])
    rfl
  rw [stepThread_throwing (frames_entered X.here.top _), hstep]
  obtain ⟨g₀, hg0⟩ := Option.isSome_iff_exists.mp X.here.top
  obtain ⟨r, hr⟩ := State.topJava?_eq_some.mp hg0
  have hr2 : (T.setVm (T.vm.noted g.method.cls x.catchType (.cls cT))).frames = .java g₀ :: r := hr
  rw [State.setTop_of_frames _ hr2] at hrest
  have e1 : ((T.setTop g).pushFrame (.throwing x0)).setVm (T.vm.noted g.method.cls x.catchType (.cls cT)) = ((T.setVm (T.vm.noted g.method.cls x.catchType (.cls cT))).setTop g).pushFrame (.throwing x0) := by
    rw [State.setTop_of_frames _ hr, State.setTop_of_frames _ hr2]; rfl
  rw [e1, State.pushFrame, State.setTop_of_frames _ hr2, State.setFrames_setFrames, State.setFrames_setFrames, hr]
  exact hrest
/-- a virtual call of a method that throws, caught by the first row of the table -/
theorem mm_catch (E : mm_C g p s m args c cc own) (hZ : mm_S g s M H locs) {nL : Nat} (hml : c.maxLocals = nL) (hsize : ls.size = nL) {y : MethodName} {b : ByteArray} {n index : Nat} {ret : Option FieldType} {rm : Room} {As : List Value} (hL : Cond.methodLink own index y ∈ GW) (hY : mm_me y b n ret As.length) (hI : Cond.instanceMethod y ∈ GW ∧ Cond.selects y.cls y y ∈ GW) (hC : CtT l g y b n ret rm M (.ref a :: As)) {ci N : Nat} {T : u_T} {fs : List Value} {t : Nat} (hM : M a = some (ob t ci fs)) (hc : classes[ci]? = some (y.cls, T, N)) (hR : rm.frames + 1 ≤ R.frames ∧ 8 + (n + 11) + rm.locals ≤ R.locals) (hst : st0 = As.reverse ++ .ref a :: rest) (hW : (rest.map fun v => v.category).sum ≤ 8) (hdg : decode cc pc = .ok (.invokevirtual index, 3)) (hf : cells + rm.cells ≤ R.cells ∧ slots + rm.slots ≤ R.slots)
    {h1 h2 h3 h4 : Nat} (htab : c.exceptionTable.toList = tableOf [(h1, h2, h3, h4)]) (hcov : h1 ≤ pc ∧ pc < h2) (h40 : h4 ≠ 0) (hcl : Cond.classLink own h4 "java/lang/ArithmeticException" ∈ GW) (hca : Cond.castable "java/lang/ArithmeticException" "java/lang/ArithmeticException" ∈ NW)
    (kk : ∀ (x : Nat) (H1 : Heap) (locs1 : List Loc), mm_S g s M H1 locs1 → W p l e R s m args below meth c H1 locs1 (cells + rm.cells) (slots + rm.slots) Q (F0 m h3 ls [.ref x])) : W p l e R s m args below meth c H locs cells slots Q (F0 m pc ls st0) := by
  intro T0 hT X
  have hws := pay_in E.2.2.2.1 (gw_code hY.1)
  obtain ⟨cellB, hcB, hoB, hclB⟩ := va_recv E.2.2.2.2.1 (mm_at hZ hM) hc (q0 := 0) rfl
  obtain ⟨mk, methM, hnamed, hmethM, hstM, habM⟩ := Cond.instanceMethod_spec (E.2.2.2.1 _ hI.1)
  obtain ⟨methM', cM, hmethM', hcM, -, hlM, -, -, -, hsigM⟩ := Cond.code_spec hnamed (E.2.2.2.1 _ hY.1)
  cases hmethM.symm.trans hmethM'
  obtain ⟨c2, r2, m2, q1, q2, q3, q4, kP, hkP, hkPi⟩ := Cond.selects_spec (E.2.2.2.1 _ hI.2)
  cases hclB.symm.trans q1
  cases (State.methodFound?_of_named hnamed ⟨hY.2.2.1, hY.2.2.2.1⟩).symm.trans q2
  cases hnamed.symm.trans q3
  have hselP : selectMethod e.platform s.vm cellB.cls mk = .method mk := by rw [Launch.admits_selectMethod X.admits]; exact q4
  have hlen : As.length = methM.sig.parameters.length := by
    have h2 := hY.2.2.2.2
    rw [hsigM] at h2
    exact (Option.some.inj h2).symm
  obtain ⟨vm₁, X₁, hstep₁⟩ := X.invokevirtual E.1 E.2.2.1 (E.2.2.2.1 _ hL) hnamed hmethM hstM hkP hkPi ⟨hY.2.2.1, hY.2.2.2.1⟩ (a := a) (cell := cellB) (by rw [hT]; exact hcB)
    (fun z h => by rw [h] at hoB; cases hoB) hselP hmethM habM hkP hkPi (g := F0 m pc ls st0) rfl (argsL := As) (rest := rest) hlen hst (by rw [E.2.1]; exact hdg)
  obtain ⟨g1, eg1⟩ : ∃ z : JFrame, z = { F0 m pc ls st0 with stack := rest } := ⟨_, rfl⟩
  have hgm : g1.method = m := by rw [eg1]
  -- the callee's contract at this call
  have hnm := X₁.named hnamed
  obtain ⟨methY, cY, hmY, hcY, -, hlY, -, -, -, -⟩ := Cond.code_spec hnm (hws _ List.mem_cons_self (Value.ref a :: As).toArray _ X₁.warmed)
  obtain ⟨kY, hkY, -⟩ := className_of_methodNamed hnm
  have hinitY : kY.init = .initialized := Cond.initialized_spec (findClass_of_methodNamed hnm) hkY (word_at (a' := (Value.ref a :: As).toArray) X₁.warmed (Or.inl (by first | rfl | simp [Cond.onTables, Cond.keeps, Cond.steady])) (E.2.2.2.1 _ hY.2.1))
  have h : At (T0.setVm vm₁) g1.method c below := by rw [hgm]; exact X₁.here
  have hd1 : decode c.code g1.pc = .ok (.invokevirtual index, 3) := by rw [eg1, E.2.1]; exact hdg
  have happ : (headSpec (.code y b n ret :: GW) rm).appliesLoose y e.platform ((T0.setVm vm₁).calling g1 mk (Value.ref a :: As).toArray) = true :=
    Spec.appliesLoose_calling (g := g1) h hd1 hnm hkY hinitY
      (X₁.room_calling (g := g1) (R' := (headSpec (.code y b n ret :: GW) rm).room) (by rw [eg1]; exact hsize.trans hml.symm) hmY hcY hR.1 (by
        rw [hlY, eg1]
        have := lv_room (m := m) (pc := pc) (ls := ls) (rest := rest) hW
        have h9 : 2 * ({ F0 m pc ls st0 with stack := rest } : JFrame).monitorRoom + (rest.map fun v => v.category).sum ≤ 8 := this
        have h10 := hR.2
        show _ + (List.map (fun v => v.category) rest).sum + (n + 11) + rm.locals ≤ R.locals
        omega) hf.1 hf.2) (atoms_intro fun w hw => hws w hw _ _ X₁.warmed)
  obtain ⟨mid, hmid⟩ := h.above
  have hfr : ((T0.setVm vm₁).setTop g1).frames = (.java g1 :: mid) ++ below := by rw [State.frames_setTop' g1 h.top, hmid]; rfl
  obtain ⟨o, t', hsteps, -, hend, hq, L, hF, hL'⟩ := Steps.callFree hC p X₁.admits X₁.cas X₁.clock (acts := []) hfr happ (mm_blind _ (T0.setVm vm₁) g1 mk ⟨rfl, E.2.2.2.2.warm X₁.warmed hZ.2.2 hT, by show mm_ok g M T0.heap; rw [hT]; exact hZ.1⟩) trivial
  rw [State.frames_setTop' g1 h.top, X₁.tail] at hend
  obtain ⟨⟨x, rfl⟩, hW2, hsame⟩ := hF
  obtain ⟨U', X', hWU, _, ht'⟩ := X₁.outOfThrown hgm (mk := mk) (a := (Value.ref a :: As).toArray) hend hW2 hsame
  have e1 : U'.heap = t'.heap := by rw [ht']; exact (Stand.throwing_heap U' g1 x).symm
  obtain ⟨⟨x', ce, hx', hce, hcev, hcec⟩, hok, hz, hkeep⟩ := hq
  cases hx'
  obtain ⟨cA, cT, f1, f2, f3⟩ := Cond.castable_spec (va_Nw.use (A := args) rfl (E.2.2.2.2.2.1 _ hca))
  have hcec' : s.vm.findClass "java/lang/ArithmeticException" = some ce.cls := by
    have h9 : (T0.setVm vm₁).vm.findClass "java/lang/ArithmeticException" = some ce.cls := hcec
    rw [X₁.warmed.alike.findClass] at h9
    exact h9
  cases f1.symm.trans hcec'
  obtain ⟨c', hc', hcl'⟩ := Cond.classLink_spec E.2.2.1 (E.2.2.2.1 _ hcl) e.platform (by rw [X.admits.platform])
  cases f2.symm.trans hc'
  obtain ⟨vm', XV, stV⟩ := mm_caught X' x (g := g1) hgm (x := ⟨h1, h2, h3, h4⟩) (by rw [e1]; exact hce) (by rw [hcev]; rfl) htab (by rw [eg1]; simp [covers, hcov]) h40 hcl' f3
  obtain ⟨t2, a1, b1⟩ := kk x U'.heap (locs ++ L) ⟨by rw [e1]; exact hok, hZ.2.1, Nat.le_trans hZ.2.2.1 (by rw [e1, ← hT]; exact hz), fun q h1 h2 => by
      have h8 : t'.heap[q]? = T0.heap[q]? := hkeep q (by show q < T0.heap.size; rw [hT]; exact Nat.lt_of_lt_of_le h1 hZ.2.2.1) h2
      rw [e1, h8, hT]; exact hZ.2.2.2.1 q h1 h2, fun q hq => by
      rcases List.mem_append.mp hq with h | h
      · exact hZ.2.2.2.2 q h
      · exact hL' q h⟩ (U'.setVm vm') rfl XV
  refine ⟨t2, hstep₁ _ fun acts => ?_, b1⟩
  rw [doInvoke_state, ← eg1]
  refine hsteps.trans ?_
  rw [ht']
  refine stV _ ?_
  rw [eg1]
  exact a1
end TC
