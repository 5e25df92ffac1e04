/-! THE MEMORY LAYER: the heap of the system as a partial function from addresses to cells (mm_M); every cell bears a tag (the module that it belongs to; 0: a constant of the JDK's, never written), and lies from the base g.1 on, if its tag isn't 0; a contract (Ct) says what the memory is behind a call, whole: no cutting and joining. -/
abbrev mm_E : Type := Nat × va_E
abbrev mm_M : Type := Nat → Option mm_E
abbrev mm_G : Type := Nat × va_G × (Nat → ClassId)
/-- an object's cell, an int array's, a long array's, a reference array's -/
abbrev ob (t ci : Nat) (fs : List Value) : mm_E := (t, .inr (ci, fs))
abbrev ai (t : Nat) (cA : ClassId) (n : Nat) (f : Nat → Int32) : mm_E := (t, .inl (cA, n, .inl f))
abbrev al (t : Nat) (cA : ClassId) (n : Nat) (f : Nat → Int64) : mm_E := (t, .inl (cA, n, .inr (.inl f)))
abbrev aq (t : Nat) (cA : ClassId) (n : Nat) (f : Nat → Option Nat) : mm_E := (t, .inl (cA, n, .inr (.inr (.inr (.inr f)))))
abbrev mm_up (M : mm_M) (a : Nat) (e : mm_E) : mm_M := va_up M a (some e)
theorem mm_self (M : mm_M) (a : Nat) (e : mm_E) : mm_up M a e a = some e := va_up_self M a (some e)
theorem mm_ne (M : mm_M) {a q : Nat} (e : mm_E) (h : q ≠ a) : mm_up M a e q = M q := va_up_ne M (some e) h
theorem mm_uu (M : mm_M) (a : Nat) (e e' : mm_E) : mm_up (mm_up M a e) a e' = mm_up M a e' := bx_uu M a (some e) (some e')
/-- two addresses whose cells differ are two -/
theorem mm_apart {M : mm_M} {a q : Nat} {e e' : mm_E} (h : M a = some e) (h' : M q = some e') (n : e ≠ e') : a ≠ q := fun x => n (Option.some.inj (h.symm.trans (x ▸ h')))
theorem mm_apartN {M : mm_M} {a q : Nat} {e : mm_E} (h : M a = some e) (h' : M q = none) : a ≠ q := fun x => by rw [x, h'] at h; cases h
theorem mm_tag {M : mm_M} {a q t t' : Nat} {e e' : va_E} (h : M a = some (t, e)) (h' : M q = some (t', e')) (n : t ≠ t') : a ≠ q := mm_apart h h' (fun x => n (congrArg Prod.fst x))
/-- the cells with this tag stay as they are -/
def mm_same (t : Nat) (M M' : mm_M) : Prop := ∀ (q : Nat) (e : va_E), M q = some (t, e) → M' q = some (t, e)
theorem mm_same.rf {t : Nat} {M : mm_M} : mm_same t M M := fun _ _ h => h
theorem mm_same.tr {t : Nat} {M M1 M2 : mm_M} (h : mm_same t M M1) (h' : mm_same t M1 M2) : mm_same t M M2 := fun q e x => h' q e (h q e x)
theorem mm_same.up {t t' : Nat} {M : mm_M} {a : Nat} {e0 : va_E} (h : M a = some (t', e0)) (n : t ≠ t') (e1 : mm_E) : mm_same t M (mm_up M a e1) := fun q f hq => (mm_ne M e1 (mm_tag hq h n)).trans hq
theorem mm_same.new {t : Nat} {M : mm_M} {a : Nat} (h : M a = none) (e1 : mm_E) : mm_same t M (mm_up M a e1) := fun q f hq => (mm_ne M e1 (mm_apartN hq h)).trans hq
def mm_ok (g : mm_G) (M : mm_M) (H : Heap) : Prop := g.1 ≤ H.size ∧ ∀ (a : Nat) (e : mm_E), M a = some e → (e.1 ≠ 0 → g.1 ≤ a) ∧ va_at g.2.1 classes (a, e.2) H
def mm_S (g : mm_G) (s : State) (M : mm_M) (H : Heap) (locs : List Loc) : Prop := mm_ok g M H ∧ g.1 ≤ s.heap.size ∧ va_S (fun q => g.1 ≤ q) s.heap H locs
theorem mm_ok.lt {g : mm_G} {M : mm_M} {H : Heap} (h : mm_ok g M H) {a : Nat} {e : mm_E} (hM : M a = some e) : a < H.size := (h.2 a e hM).2.lt
theorem mm_ok.fresh {g : mm_G} {M : mm_M} {H : Heap} (h : mm_ok g M H) {q : Nat} (hq : H.size ≤ q) : M q = none := by
  cases hM : M q with
  | none => rfl
  | some e => exact absurd (h.lt hM) (by omega)
/-- a cell is written -/
theorem mm_ok.put {g : mm_G} {M : mm_M} {H H1 : Heap} (h : mm_ok g M H) {a t : Nat} {e0 e : va_E} (hM : M a = some (t, e0)) (he : va_at g.2.1 classes (a, e) H1) (z : H1.size = H.size) (oq : ∀ q : Nat, q ≠ a → H1[q]? = H[q]?) : mm_ok g (mm_up M a (t, e)) H1 := by
  refine ⟨by rw [z]; exact h.1, fun q f hq => ?_⟩
  by_cases c : q = a
  · subst c
    rw [mm_self] at hq
    cases hq
    exact ⟨(h.2 q _ hM).1, he⟩
  · rw [mm_ne _ _ c] at hq
    exact ⟨(h.2 q f hq).1, (h.2 q f hq).2.kept (oq q c)⟩
/-- a cell comes -/
theorem mm_ok.new {g : mm_G} {M : mm_M} {H H1 : Heap} (h : mm_ok g M H) {t : Nat} {e : va_E} (he : va_at g.2.1 classes (H.size, e) H1) (z : H1.size = H.size + 1) (oq : ∀ q : Nat, q < H.size → H1[q]? = H[q]?) : mm_ok g (mm_up M H.size (t, e)) H1 := by
  refine ⟨by rw [z]; exact Nat.le_succ_of_le h.1, fun q f hq => ?_⟩
  by_cases c : q = H.size
  · subst c
    rw [mm_self] at hq
    cases hq
    exact ⟨fun _ => h.1, he⟩
  · rw [mm_ne _ _ c] at hq
    exact ⟨(h.2 q f hq).1, (h.2 q f hq).2.kept (oq q (h.lt hq))⟩
theorem mm_S.put {g : mm_G} {s : State} {M : mm_M} {H H1 : Heap} {locs : List Loc} (h : mm_S g s M H locs) {a k t : Nat} {e0 e : va_E} (hM : M a = some (t, e0)) (ht : t ≠ 0) (he : va_at g.2.1 classes (a, e) H1) (z : H1.size = H.size) (oq : ∀ q : Nat, q ≠ a → H1[q]? = H[q]?) : mm_S g s (mm_up M a (t, e)) H1 (locs ++ [⟨a, k⟩]) :=
  ⟨h.1.put hM he z oq, h.2.1, h.2.2.put z oq ((h.1.2 a _ hM).1 ht)⟩
theorem mm_S.new {g : mm_G} {s : State} {M : mm_M} {H H1 : Heap} {locs : List Loc} (h : mm_S g s M H locs) {t : Nat} {e : va_E} (he : va_at g.2.1 classes (H.size, e) H1) (z : H1.size = H.size + 1) (oq : ∀ q : Nat, q < H.size → H1[q]? = H[q]?) : mm_S g s (mm_up M H.size (t, e)) H1 locs :=
  ⟨h.1.new he z oq, h.2.1, ⟨Nat.le_trans h.2.2.1 (by omega), fun x h1 h2 => (oq x (Nat.lt_of_lt_of_le h1 h.2.2.1)).trans (h.2.2.2.1 x h1 h2), h.2.2.2.2⟩⟩
theorem mm_S.fresh {g : mm_G} {s : State} {M : mm_M} {H : Heap} {locs : List Loc} (h : mm_S g s M H locs) : M H.size = none := h.1.fresh (Nat.le_refl _)
-- the words that stay true where more is resolved (GW), and those of nest mates (NW)
def nw_ok : Cond → Bool
  | .fieldLinkNest .. => true
  | .methodLinkNest .. => true
  | .castable .. => true
  | .declares .. => true
  | _ => false
def GW : List Cond := lw_tbl.filter goodWord
def NW : List Cond := lw_tbl.filter nw_ok
theorem gw_of {w : Cond} (h : w ∈ lw_tbl) (hg : goodWord w = true) : w ∈ GW := List.mem_filter.mpr ⟨h, hg⟩
theorem nw_of {w : Cond} (h : w ∈ lw_tbl) (hg : nw_ok w = true) : w ∈ NW := List.mem_filter.mpr ⟨h, hg⟩
theorem gw_good : GoodIn GW GW := fun w hw => ⟨hw, good_of_word (List.mem_filter.mp hw).2⟩
theorem nw_tab {w : Cond} (h : nw_ok w = true) : w.onTables = true := by
  cases w <;> first | rfl | (simp [nw_ok] at h)
theorem nw_warm {w : Cond} {s U : State} (h : nw_ok w = true) (hW : s.WarmedH U.vm) (hZ : va_Nw w s) : va_Nw w U := by
  cases w <;> first | exact va_Nw.warmF hW hZ | exact va_Nw.warmM hW hZ | exact va_Nw.warmC hW hZ | exact va_Nw.warmD hW hZ | (simp [nw_ok] at h)
-- ArrayList's empty array (its address), the mirror of Object[], the text of the one exception: kept among the numbers of g
def g_df (g : mm_G) : Nat := g.2.1.2 100 0
def g_mi (g : mm_G) : Nat := g.2.1.2 100 1
def g_tx (g : mm_G) : Nat := g.2.1.2 100 2
/-- a static field of references, which lies below the base -/
def mm_St (C n d : String) (A : Nat → Prop) (U : State) (H : Heap) : Prop := ∃ (cf : ClassId) (kf : Class) (fi : Nat) (f : Field) (a : Nat) (cell : Cell) (v : Value), U.vm.findClass C = some cf ∧ U.fieldFound? C n d = some (cf, kf, fi, f) ∧ f.isStatic = true ∧ kf.statics = some a ∧ kf.staticTypes[f.slot]? = some f.type ∧ H[a]? = some cell ∧ cell.vm.isStatics = true ∧ cell.cls = cf ∧ f.slot < cell.slots.size ∧ cell.slots[f.slot]? = some v ∧ v.isRef = true ∧ ¬ A a
theorem mm_St.moved {C n d : String} {A : Nat → Prop} {u U : State} {H : Heap} (hvm : u.vm.Alike U.vm) (h : mm_St C n d A u H) : mm_St C n d A U H := by
  obtain ⟨cf, kf, fi, f, a, cell, v, h1, h2, h3, h4, h5, h6⟩ := h
  obtain ⟨k', hi', he⟩ := State.fieldFound?_setVm hvm h2
  exact ⟨cf, k', fi, f, a, cell, v, by rw [hvm.findClass]; exact h1, hi', h3, by rw [he]; exact h4, by rw [he]; exact h5, h6⟩
theorem mm_St.kept {C n d : String} {A : Nat → Prop} {U : State} {H H1 : Heap} (h : mm_St C n d A U H) (hq : ∀ a : Nat, a < H.size → ¬ A a → H1[a]? = H[a]?) : mm_St C n d A U H1 := by
  obtain ⟨cf, kf, fi, f, a, cell, v, h1, h2, h3, h4, h5, h6, h7, h8, h9, h10, h11, h12⟩ := h
  exact ⟨cf, kf, fi, f, a, cell, v, h1, h2, h3, h4, h5, by rw [hq a (Array.getElem?_eq_some_iff.mp h6).1 h12]; exact h6, h7, h8, h9, h10, h11, h12⟩
theorem mm_St.of {args : Array Value} {s : State} {C n d : String} {A : Nat → Prop} (hl : (Cond.laysStatic C n d).before args s = true) (hr : (Cond.isRef (.static C n d)).before args s = true) (hA : ∀ a : Nat, a < s.heap.size → ¬ A a) : mm_St C n d A s s.heap := by
  obtain ⟨c, k, i, f, a, cell, hc, hi, hst, ha, hcell, hs, hcls, hlt, hty⟩ := Cond.laysStatic_spec hl
  obtain ⟨v, hv, hvr⟩ := Cond.isRef_spec hr
  obtain ⟨hst', a', cell', ha', hcell', -, hslot⟩ := Term.static_spec hi hv
  cases ha.symm.trans ha'
  cases hcell.symm.trans hcell'
  exact ⟨c, k, i, f, a, cell, v, hc, hi, hst, ha, hty, hcell, hs, hcls, hlt, hslot, hvr, hA a (Array.getElem?_eq_some_iff.mp hcell).1⟩
theorem mm_St.lays {args : Array Value} {U : State} {C n d : String} {A : Nat → Prop} (h : mm_St C n d A U U.heap) : (Cond.laysStatic C n d).before args U = true := by
  obtain ⟨cf, kf, fi, f, a, cell, v, h1, h2, h3, h4, h5, h6, h7, h8, h9, h10, h11, h12⟩ := h
  exact Cond.laysStatic_of h1 h2 h3 h4 h6 h7 h8 h9 h5
theorem mm_St.isRef {args : Array Value} {U : State} {C n d : String} {A : Nat → Prop} (h : mm_St C n d A U U.heap) : (Cond.isRef (.static C n d)).before args U = true := by
  obtain ⟨cf, kf, fi, f, a, cell, v, h1, h2, h3, h4, h5, h6, h7, h8, h9, h10, h11, h12⟩ := h
  have hev := Term.static_eval (args := args) (first := U) (o := none) (idx := []) h2 h3 h4 h6 h7 h10
  simp only [Cond.before, Cond.holds, Cond.value]
  rw [hev]
  cases v <;> first | rfl | (simp [Value.isRef] at h11)
abbrev mm_St1 (g : mm_G) (U : State) : Prop := mm_St "java/lang/Throwable" "UNASSIGNED_STACK" "[Ljava/lang/StackTraceElement;" (fun q => g.1 ≤ q) U U.heap
abbrev mm_St2 (g : mm_G) (U : State) : Prop := mm_St "java/lang/Throwable" "SUPPRESSED_SENTINEL" "Ljava/util/List;" (fun q => g.1 ≤ q) U U.heap
/-- what is known of statics, which lie below the base -/
def mm_Zs (g : mm_G) (U : State) : Prop := va_Z "java/util/ArrayList" "DEFAULTCAPACITY_EMPTY_ELEMENTDATA" "[Ljava/lang/Object;" (.ref (g_df g)) (fun q => g.1 ≤ q) U U.heap ∧ va_T (.object "java/lang/Object") (g_df g) 0 (fun _ => .null) (fun q => g.1 ≤ q) U U.heap ∧ mm_St1 g U ∧ mm_St2 g U
theorem mm_Zs.go {g : mm_G} {s U : State} {H : Heap} {locs : List Loc} (h : mm_Zs g s) (hW : s.WarmedH U.vm) (hS : va_S (fun q => g.1 ≤ q) s.heap H locs) (hU : U.heap = H) : mm_Zs g U :=
  ⟨(va_Z.moved hW.alike h.1).kept (fun a h1 h2 => by rw [hU]; exact hS.2.1 a h1 h2), (va_T.moved hW.alike h.2.1).kept (fun a h1 h2 => by rw [hU]; exact hS.2.1 a h1 h2), (mm_St.moved hW.alike h.2.2.1).kept (fun a h1 h2 => by rw [hU]; exact hS.2.1 a h1 h2), (mm_St.moved hW.alike h.2.2.2).kept (fun a h1 h2 => by rw [hU]; exact hS.2.1 a h1 h2)⟩
theorem mm_Zs.same {g : mm_G} {s U : State} (h : mm_Zs g s) (hv : s.vm = U.vm) (hh : U.heap = s.heap) : mm_Zs g U :=
  ⟨(va_Z.moved (by rw [hv]; exact Vm.Alike.refl _) h.1).kept (fun a h1 h2 => by rw [hh]), (va_T.moved (by rw [hv]; exact Vm.Alike.refl _) h.2.1).kept (fun a h1 h2 => by rw [hh]), (mm_St.moved (by rw [hv]; exact Vm.Alike.refl _) h.2.2.1).kept (fun a h1 h2 => by rw [hh]), (mm_St.moved (by rw [hv]; exact Vm.Alike.refl _) h.2.2.2).kept (fun a h1 h2 => by rw [hh])⟩
def mm_K (g : mm_G) (U : State) : Prop := va_K g.2.1 classes (tys g.2.2) U ∧ (∀ w ∈ NW, va_Nw w U) ∧ va_AO "ExpectRows$Item" U ∧ va_AO "java/lang/Object" U ∧ va_Mi "[Ljava/lang/Object;" (g_mi g) U ∧ vk_R "ExpectRows" 139 "no expectation was begun at this place" (g_tx g) U ∧ mm_Zs g U
theorem mm_K.warm {g : mm_G} {s U : State} {H : Heap} {locs : List Loc} (h : mm_K g s) (hW : s.WarmedH U.vm) (hS : va_S (fun q => g.1 ≤ q) s.heap H locs) (hU : U.heap = H) : mm_K g U := ⟨va_K.moved hW.alike h.1, fun w hw => nw_warm (List.mem_filter.mp hw).2 hW (h.2.1 w hw), va_AO.moved hW.alike h.2.2.1, va_AO.moved hW.alike h.2.2.2.1, va_Mi.moved hW.alike h.2.2.2.2.1, vk_R.warm hW h.2.2.2.2.2.1, h.2.2.2.2.2.2.go hW hS hU⟩
theorem mm_K.same {g : mm_G} {s U : State} (h : mm_K g s) (hv : s.vm = U.vm) (hh : U.heap = s.heap) : mm_K g U := ⟨va_K.moved (by rw [hv]; exact Vm.Alike.refl _) h.1, fun w hw => va_Nw.same (nw_tab (List.mem_filter.mp hw).2) hv (h.2.1 w hw), va_AO.moved (by rw [hv]; exact Vm.Alike.refl _) h.2.2.1, va_AO.moved (by rw [hv]; exact Vm.Alike.refl _) h.2.2.2.1, va_Mi.moved (by rw [hv]; exact Vm.Alike.refl _) h.2.2.2.2.1, vk_R.same hv.symm h.2.2.2.2.2.1, h.2.2.2.2.2.2.same hv hh⟩
/-- a method's surroundings: the machine, its code, its class, the words, what is known of classes -/
def mm_C (g : mm_G) (p : Program) (s : State) (m : MethodId) (args : Array Value) (c : Code) (cc : ByteArray) (own : String) : Prop :=
  p.tables.exec = Jvm.exec ∧ c.code = cc ∧ s.vm.findClass own = some m.cls ∧ (∀ w ∈ GW, w.before args s = true) ∧ mm_K g s
def mm_Q (g : mm_G) (Post : Option Value → mm_M → Prop) : Array Value → State → Outcome → State → Prop := fun _ st o t => (∃ (v : Option Value) (M' : mm_M), o = .returned v ∧ Post v M' ∧ mm_ok g M' t.heap) ∧ va_F (fun q => g.1 ≤ q) st t
def mm_Pc (g : mm_G) (M : mm_M) (av : List Value) : Array Value → State → Prop := fun a U => a = av.toArray ∧ mm_K g U ∧ mm_ok g M U.heap
/-- A CONTRACT: with the memory M and the arguments av the method returns, with an answer and a memory as Post says -/
def Ct (l : Launch) (g : mm_G) (y : MethodName) (b : ByteArray) (n : Nat) (ret : Option FieldType) (rm : Room) (M : mm_M) (av : List Value) (Post : Option Value → mm_M → Prop) : Prop :=
  Met l y (.code y b n ret :: GW) rm (mm_Pc g M av) (mm_Q g Post) rm.cells rm.slots (fun q => g.1 ≤ q)
abbrev Ci (l : Launch) (g : mm_G) (y : MethodName) (b : ByteArray) (n : Nat) (ret : FieldType) (rm : Room) (M : mm_M) (av : List Value) (Post : Int32 → mm_M → Prop) : Prop := Ct l g y b n (some ret) rm M av (fun v M' => ∃ r, v = some (.int r) ∧ Post r M')
abbrev Cl (l : Launch) (g : mm_G) (y : MethodName) (b : ByteArray) (n : Nat) (rm : Room) (M : mm_M) (av : List Value) (Post : Int64 → mm_M → Prop) : Prop := Ct l g y b n (some .long) rm M av (fun v M' => ∃ r, v = some (.long r) ∧ Post r M')
abbrev Cv (l : Launch) (g : mm_G) (y : MethodName) (b : ByteArray) (n : Nat) (rm : Room) (M : mm_M) (av : List Value) (Post : mm_M → Prop) : Prop := Ct l g y b n none rm M av (fun v M' => v = none ∧ Post M')
abbrev Cq (l : Launch) (g : mm_G) (y : MethodName) (b : ByteArray) (n : Nat) (ret : FieldType) (rm : Room) (M : mm_M) (av : List Value) (Post : Option Nat → mm_M → Prop) : Prop := Ct l g y b n (some ret) rm M av (fun v M' => ∃ r, v = some (va_rf r) ∧ Post r M')
/-- a room of k frames, lc words, mc cells of ms slots -/
abbrev rk (k lc mc ms : Nat) : Room := { frames := k, cells := mc, slots := ms, locals := lc }
theorem mm_blind {g : mm_G} {M : mm_M} {av : List Value} : FrameBlind (mm_Pc g M av) := fun _ U _ _ q => ⟨q.1, q.2.1.same (s := U) rfl rfl, q.2.2⟩
theorem mm_enter {l : Launch} {g : mm_G} {y : MethodName} {b : ByteArray} {n : Nat} {ret : Option FieldType} {rm : Room} {M : mm_M} {av : List Value} {Post : Option Value → mm_M → Prop} (hy : plainName y.cls = true) (hn : (lg_sl av).length ≤ n)
    (body : ∀ (p : Program) (e : Env) (s : State) (m : MethodId) (args : Array Value) (below : List Frame) (meth : Method) (c : Code) (ls : Array Slot) (Q : State → Prop), mm_C g p s m args c b y.cls → c.maxLocals = n → meth.sig.returnType = ret → meth.locks = false → meth.name = y.name → mm_S g s M s.heap [] → lv_has ls n (lv_args 0 av) →
      Q = MQ below (mm_Q g Post) args s rm.cells rm.slots (fun q => g.1 ≤ q) → W p l e rm s m args below meth c s.heap [] 0 0 Q (F0 m 0 ls [])) : Ct l g y b n ret rm M av Post := by
  refine Met.ofW (cc := b) (maxL := n) (ret := ret) hy rfl ?_
  intro p e s m args below meth c s₁ B hml hv
  obtain ⟨rfl, hK, hM⟩ := hv
  have hts := atoms_spec (ws := .code y b n ret :: GW) B.pre
  rw [lg_entry_eq]
  exact body p e s m _ below meth c _ _ ⟨B.exec, B.bytes, findClass_of_methodNamed B.named, fun w h => hts w (List.mem_cons_of_mem _ h), hK⟩ hml B.returns B.notSynchronized (name_of_methodNamed B.named B.method).1 ⟨hM, hM.1, va_S.rf⟩ (lv_entry av hn) rfl
section MM
variable {p : Program} {l : Launch} {e : Env} {R : Room} {s : State} {m : MethodId} {args : Array Value} {below : List Frame} {meth : Method} {c : Code} {H : Heap} {locs : List Loc} {cells slots : Nat} {Q : State → Prop} {cc : ByteArray} {pc : Nat} {ls : Array Slot} {rest st0 : List Value} {g : mm_G} {M : mm_M} {own : String} {a : Nat} {Post : Option Value → mm_M → Prop}
-- returns
theorem mm_iret (E : mm_C g p s m args c cc own) (hr : meth.sig.returnType = some .int) (hlk : meth.locks = false) (eQ : Q = MQ below (mm_Q g Post) args s cells slots (fun q => g.1 ≤ q)) (hZ : mm_S g s M H locs) {v : Int32} (hdg : decode cc pc = .ok (.ireturn, 1)) (hp : Post (some (.int v)) M) : W p l e R s m args below meth c H locs cells slots Q (F0 m pc ls [.int v]) := by
  subst eQ
  exact W.iret E.1 E.2.1 hr (fun t ht _ => ⟨⟨_, _, rfl, hp, by rw [ht]; exact hZ.1⟩, hZ.2.2.F ht⟩) hZ.2.2.2.2 hdg hlk
theorem mm_zret (E : mm_C g p s m args c cc own) {ty : FieldType} (hr : meth.sig.returnType = some ty) (hlk : meth.locks = false) (eQ : Q = MQ below (mm_Q g Post) args s cells slots (fun q => g.1 ≤ q)) (hZ : mm_S g s M H locs) {v : Int32} (hn : narrow ty (.int v) = .int v) (hdg : decode cc pc = .ok (.ireturn, 1)) (hp : Post (some (.int v)) M) : W p l e R s m args below meth c H locs cells slots Q (F0 m pc ls [.int v]) := by
  subst eQ
  exact W.zret E.1 E.2.1 hr hn (fun t ht _ => ⟨⟨_, _, rfl, hp, by rw [ht]; exact hZ.1⟩, hZ.2.2.F ht⟩) hZ.2.2.2.2 hdg hlk
theorem mm_lret (E : mm_C g p s m args c cc own) (hr : meth.sig.returnType = some .long) (hlk : meth.locks = false) (eQ : Q = MQ below (mm_Q g Post) args s cells slots (fun q => g.1 ≤ q)) (hZ : mm_S g s M H locs) {v : Int64} (hdg : decode cc pc = .ok (.lreturn, 1)) (hp : Post (some (.long v)) M) : W p l e R s m args below meth c H locs cells slots Q (F0 m pc ls [.long v]) := by
  subst eQ
  exact W.lret E.1 E.2.1 hr (fun t ht _ => ⟨⟨_, _, rfl, hp, by rw [ht]; exact hZ.1⟩, hZ.2.2.F ht⟩) hZ.2.2.2.2 hdg hlk
theorem mm_vret (E : mm_C g p s m args c cc own) (hr : meth.sig.returnType = none) (hlk : meth.locks = false) (eQ : Q = MQ below (mm_Q g Post) args s cells slots (fun q => g.1 ≤ q)) (hZ : mm_S g s M H locs) (hdg : decode cc pc = .ok (.return_, 1)) (hp : Post none M) : W p l e R s m args below meth c H locs cells slots Q (F0 m pc ls []) := by
  subst eQ
  exact W.vret E.1 E.2.1 hr (fun t ht _ => ⟨⟨_, _, rfl, hp, by rw [ht]; exact hZ.1⟩, hZ.2.2.F ht⟩) hZ.2.2.2.2 hdg hlk
theorem mm_aret (E : mm_C g p s m args c cc own) {rt : FieldType} (hr : meth.sig.returnType = some rt) (hrt : (∃ n, rt = .object n) ∨ ∃ t, rt = .array t) (hlk : meth.locks = false) (eQ : Q = MQ below (mm_Q g Post) args s cells slots (fun q => g.1 ≤ q)) (hZ : mm_S g s M H locs) {v : Option Nat} (hdg : decode cc pc = .ok (.areturn, 1)) (hp : Post (some (va_rf v)) M) : W p l e R s m args below meth c H locs cells slots Q (F0 m pc ls [va_rf v]) := by
  subst eQ
  exact W.aret E.1 E.2.1 hr hrt (va_rf_or v) (fun t ht _ => ⟨⟨_, _, rfl, hp, by rw [ht]; exact hZ.1⟩, hZ.2.2.F ht⟩) hZ.2.2.2.2 hdg hlk
-- fields
theorem mm_getW (E : mm_C g p s m args c cc own) (hZ : mm_S g s M H locs) {C : String} {T : u_T} {N ci index : Nat} {fs : List Value} {t : Nat} (hM : M a = some (ob t ci fs)) (hc : classes[ci]? = some (C, T, N)) (hin : ∀ w ∈ u_ws C T N, w ∈ GW) (k : Nat) (hk : k < N) {ref : String} (hlink : (Cond.fieldLink own index ref (T k).2.1 (T k).2.2.1).before args s = true) (hsame : ∀ x, s.fieldFound? (T k).1 (T k).2.1 (T k).2.2.1 = some x → s.fieldFound? ref (T k).2.1 (T k).2.2.1 = some x) {v : Value} (hv : fs[k]? = some v) (hdg : decode cc pc = .ok (.getfield index, 3))
    (kk : W p l e R s m args below meth c H locs cells slots Q (F0 m (pc + 3) ls (v :: rest))) : W p l e R s m args below meth c H locs cells slots Q (F0 m pc ls (.ref a :: rest)) :=
  va_get (ws := [(a, .inr (ci, fs))]) E.1 E.2.1 E.2.2.2.1 hin E.2.2.1 E.2.2.2.2.1 (fun k q h => by
    match k, h with
    | 0, h => cases h; exact (hZ.1.2 a _ hM).2
    | k + 1, h => simp at h) 0 rfl hc k hk hlink hsame hv hdg kk
theorem mm_getNW (E : mm_C g p s m args c cc own) (hZ : mm_S g s M H locs) {C : String} {T : u_T} {N ci index : Nat} {fs : List Value} {t : Nat} (hM : M a = some (ob t ci fs)) (hc : classes[ci]? = some (C, T, N)) (hin : ∀ w ∈ u_ws C T N, w ∈ GW) (k : Nat) (hk : k < N) {ref host : String} (hlink : (Cond.fieldLinkNest own index ref (T k).2.1 (T k).2.2.1 host).before args s = true) (hsame : ∀ x, s.fieldFound? (T k).1 (T k).2.1 (T k).2.2.1 = some x → s.fieldFound? ref (T k).2.1 (T k).2.2.1 = some x) {v : Value} (hv : fs[k]? = some v) (hdg : decode cc pc = .ok (.getfield index, 3))
    (kk : W p l e R s m args below meth c H locs cells slots Q (F0 m (pc + 3) ls (v :: rest))) : W p l e R s m args below meth c H locs cells slots Q (F0 m pc ls (.ref a :: rest)) :=
  va_getN (ws := [(a, .inr (ci, fs))]) E.1 E.2.1 E.2.2.2.1 hin E.2.2.1 E.2.2.2.2.1 (fun k q h => by
    match k, h with
    | 0, h => cases h; exact (hZ.1.2 a _ hM).2
    | k + 1, h => simp at h) 0 rfl hc k hk hlink hsame hv hdg kk
/-- what a class's row of tables says, by program -/
def mm_cls (ci : Nat) (C : String) (T : u_T) (N : Nat) (ty0 : Nat → FieldType) : Prop := classes[ci]? = some (C, T, N) ∧ (∀ w ∈ u_ws C T N, w ∈ GW) ∧ (∀ k, k < N → parseFieldDescriptor (T k).2.2.1 = some (ty0 k)) ∧ (∀ a, a < N → ∀ b, b < N → a ≠ b → (T a).2.1 ≠ (T b).2.1)
/-- a field's link out of a class's pool -/
def mm_fl (own : String) (index : Nat) (T : u_T) (k : Nat) : Prop := (∃ ref, Cond.fieldLink own index ref (T k).2.1 (T k).2.2.1 ∈ GW ∧ (ref = (T k).1 ∨ Cond.sameField ref (T k).1 (T k).2.1 (T k).2.2.1 ∈ GW)) ∨ ∃ host, Cond.fieldLinkNest own index (T k).1 (T k).2.1 (T k).2.2.1 host ∈ NW
theorem mm_get (E : mm_C g p s m args c cc own) (hZ : mm_S g s M H locs) {C : String} {T : u_T} {N ci index : Nat} {ty0 : Nat → FieldType} (hcl : mm_cls ci C T N ty0) {k : Nat} (hf : mm_fl own index T k) (hk : k < N) {fs : List Value} {t : Nat} (hM : M a = some (ob t ci fs)) {v : Value} (hv : fs[k]? = some v) (hdg : decode cc pc = .ok (.getfield index, 3))
    (kk : W p l e R s m args below meth c H locs cells slots Q (F0 m (pc + 3) ls (v :: rest))) : W p l e R s m args below meth c H locs cells slots Q (F0 m pc ls (.ref a :: rest)) := by
  rcases hf with ⟨ref, hf, hsm⟩ | ⟨host, hf⟩
  · exact mm_getW E hZ hM hcl.1 hcl.2.1 k hk (E.2.2.2.1 _ hf) (by
      rcases hsm with rfl | hsm
      · exact fun _ h => h
      · exact fun x h => u_same (E.2.2.2.1 _ hsm) x h) hv hdg kk
  · exact mm_getNW E hZ hM hcl.1 hcl.2.1 k hk (va_Nw.use rfl (E.2.2.2.2.2.1 _ hf)) (fun _ h => h) hv hdg kk
theorem mm_put (E : mm_C g p s m args c cc own) (hZ : mm_S g s M H locs) {C : String} {T : u_T} {N ci index : Nat} {ty0 : Nat → FieldType} (hcl : mm_cls ci C T N ty0) {k : Nat} (hf : mm_fl own index T k) (hk : k < N) (hfin : (T k).2.2.2 = false) {fs : List Value} {t : Nat} (hM : M a = some (ob t ci fs)) {v : Value} (ht : t ≠ 0) (hn : narrow (ty0 k) v = v) (hfit : fits (ty0 k) v = true) (hl : k < fs.length) (hdg : decode cc pc = .ok (.putfield index, 3))
    (kk : ∀ (H1 : Heap) (locs1 : List Loc), mm_S g s (mm_up M a (ob t ci (fs.set k v))) H1 locs1 → W p l e R s m args below meth c H1 locs1 cells slots Q (F0 m (pc + 3) ls rest)) : W p l e R s m args below meth c H locs cells slots Q (F0 m pc ls (v :: .ref a :: rest)) := by
  obtain ⟨hexec, hb, hown, hts, hK, hN⟩ := E
  obtain ⟨hc, hin, hty, hnm⟩ := hcl
  have hap := va_apart (own := own) hts hin ty0 hty hnm hK hc
  obtain ⟨r, h1, cell, q1, q2, q3, q4⟩ := (hZ.1.2 a _ hM).2
  have hr : r = (C, T, N) := Option.some.inj (h1.symm.trans hc)
  subst hr
  obtain ⟨hS, hfc, kC, hkC, hkind⟩ := hK.1 ci _ hc
  obtain ⟨cf, kf, fi, f, hi, hsl⟩ := hS k hk
  have hlay := hts _ (hin _ (u_in_lay hk))
  unfold u_lay at hlay
  rw [if_neg (by rw [hfin]; decide)] at hlay
  have hst := (u_facts hfc hkC (u_lays hts hin hk) hi).1
  have h6 := u_store hfc hkC hkind hlay hi (hty k hk) hn hfit
  rcases hf with ⟨ref, hf, hsm⟩ | ⟨host, hf⟩
  · have hsame : ∀ x, s.fieldFound? (T k).1 (T k).2.1 (T k).2.2.1 = some x → s.fieldFound? ref (T k).2.1 (T k).2.2.1 = some x := by
      rcases hsm with rfl | hsm
      · exact fun _ h => h
      · exact fun x h => u_same (hts _ hsm) x h
    refine W.putK hexec hb (f := f) ⟨hown, hts _ hf, ⟨_, _, _, hsame _ hi⟩, hst⟩ (by rw [q2]; exact h6) q1 q3 (by rw [hsl]; exact k2_hasslot (q4 k hk)) rfl rfl hdg fun H' e1 e2 e3 => ?_
    rw [hsl] at e1 ⊢
    exact kk H' _ (hZ.put hM ht ⟨_, hc, t_OB.to (V := updV (vp_V fs) k v) ⟨_, e1, q2, q3, t_set q4 hap hk v⟩ (fun j _ => vp_updV_set hl v j)⟩ e2 e3)
  · refine va_WputK hexec hb (f := f) hown (va_Nw.use rfl (hN.1 _ hf)) hi hst (by rw [q2]; exact h6) q1 q3 (by rw [hsl]; exact k2_hasslot (q4 k hk)) rfl rfl hdg fun H' e1 e2 e3 => ?_
    rw [hsl] at e1 ⊢
    exact kk H' _ (hZ.put hM ht ⟨_, hc, t_OB.to (V := updV (vp_V fs) k v) ⟨_, e1, q2, q3, t_set q4 hap hk v⟩ (fun j _ => vp_updV_set hl v j)⟩ e2 e3)
/-- a final field, in its class's constructor -/
theorem mm_putF (E : mm_C g p s m args c cc own) (hnm2 : meth.name = "<init>") (hZ : mm_S g s M H locs) {C : String} {T : u_T} {N ci index : Nat} {ty0 : Nat → FieldType} (hcl : mm_cls ci C T N ty0) {k : Nat} (hf : Cond.fieldLink own index (T k).1 (T k).2.1 (T k).2.2.1 ∈ GW) (hk : k < N) (hfin : (T k).2.2.2 = true) (hdecl : (T k).1 = own) {fs : List Value} {t : Nat} (hM : M a = some (ob t ci fs)) {v : Value} (ht : t ≠ 0) (hn : narrow (ty0 k) v = v) (hfit : fits (ty0 k) v = true) (hl : k < fs.length) (hdg : decode cc pc = .ok (.putfield index, 3))
    (kk : ∀ (H1 : Heap) (locs1 : List Loc), mm_S g s (mm_up M a (ob t ci (fs.set k v))) H1 locs1 → W p l e R s m args below meth c H1 locs1 cells slots Q (F0 m (pc + 3) ls rest)) : W p l e R s m args below meth c H locs cells slots Q (F0 m pc ls (v :: .ref a :: rest)) := by
  obtain ⟨hexec, hb, hown, hts, hK, hN⟩ := E
  obtain ⟨hc, hin, hty, hnm⟩ := hcl
  have hap := va_apart (own := own) hts hin ty0 hty hnm hK hc
  obtain ⟨r, h1, cell, q1, q2, q3, q4⟩ := (hZ.1.2 a _ hM).2
  have hr : r = (C, T, N) := Option.some.inj (h1.symm.trans hc)
  subst hr
  obtain ⟨hS, hfc, kC, hkC, hkind⟩ := hK.1 ci _ hc
  obtain ⟨cf, kf, fi, f, hi, hsl⟩ := hS k hk
  have hlay := hts _ (hin _ (u_in_lay hk))
  unfold u_lay at hlay
  rw [if_pos hfin] at hlay
  have hst := (u_facts hfc hkC (u_lays hts hin hk) hi).1
  have hcf : m.cls = cf := by
    obtain ⟨_, _, c', _, _, _, -, -, hf', -, -, -, hown2, -⟩ := Cond.laysFinal_spec hlay
    have e1 : c' = cf := by have := hi.symm.trans hf'; simp at this; exact this.1.symm
    rw [hdecl] at hown2
    rw [← e1]; exact Option.some.inj (hown.symm.trans hown2)
  have h6 := u_fits hfc hkC hkind (Or.inr hlay) hi (hty k hk) hn hfit
  refine W.putFinK hexec hb hown (hts _ hf) hi hst hcf hnm2 (by rw [q2]; exact h6) q1 q3 (by rw [hsl]; exact k2_hasslot (q4 k hk)) rfl rfl hdg fun H' e1 e2 e3 => ?_
  rw [hsl] at e1 ⊢
  exact kk H' _ (hZ.put hM ht ⟨_, hc, t_OB.to (V := updV (vp_V fs) k v) ⟨_, e1, q2, q3, t_set q4 hap hk v⟩ (fun j _ => vp_updV_set hl v j)⟩ e2 e3)
-- arrays: an index is a number k below the length n
theorem ix_in {i : Int32} {k n : Nat} (hi : i = nI k) (hk : k < n) (hn : n < 2 ^ 31) : vp_in i n := hi ▸ vp_in_nI hk hn
theorem ix_cl {i : Int32} {k n : Nat} (hi : i = nI k) (hk : k < n) (hn : n < 2 ^ 31) : i.toNatClampNeg = k := hi ▸ nI_clamp (Nat.lt_trans hk hn)
theorem mm_at (hZ : mm_S g s M H locs) {t : Nat} {x : va_E} (hM : M a = some (t, x)) : va_P g.2.1 classes [(a, x)] H := fun k q h => by
  match k, h with
  | 0, h => cases h; exact (hZ.1.2 a _ hM).2
  | k + 1, h => simp at h
theorem mm_iald (E : mm_C g p s m args c cc own) (hZ : mm_S g s M H locs) {t t0 n : Nat} {cA : ClassId} {f : Nat → Int32} (hM : M a = some (ai t cA n f)) (ht : (tys g.2.2)[t0]? = some (cA, .int)) {i : Int32} {k : Nat} (hi : i = nI k) (hk : k < n) (hn : n < 2 ^ 31) (hdg : decode cc pc = .ok (.iaload, 1))
    (kk : W p l e R s m args below meth c H locs cells slots Q (F0 m (pc + 1) ls (.int (f k) :: rest))) : W p l e R s m args below meth c H locs cells slots Q (F0 m pc ls (.int i :: .ref a :: rest)) :=
  va_iald E.1 E.2.1 E.2.2.2.2.1 (mm_at hZ hM) 0 t0 rfl ht (ix_in hi hk hn) hdg (by rw [ix_cl hi hk hn]; exact kk)
theorem mm_lald (E : mm_C g p s m args c cc own) (hZ : mm_S g s M H locs) {t t0 n : Nat} {cA : ClassId} {f : Nat → Int64} (hM : M a = some (al t cA n f)) (ht : (tys g.2.2)[t0]? = some (cA, .long)) {i : Int32} {k : Nat} (hi : i = nI k) (hk : k < n) (hn : n < 2 ^ 31) (hdg : decode cc pc = .ok (.laload, 1))
    (kk : W p l e R s m args below meth c H locs cells slots Q (F0 m (pc + 1) ls (.long (f k) :: rest))) : W p l e R s m args below meth c H locs cells slots Q (F0 m pc ls (.int i :: .ref a :: rest)) :=
  va_lald E.1 E.2.1 E.2.2.2.2.1 (mm_at hZ hM) 0 t0 rfl ht (ix_in hi hk hn) hdg (by rw [ix_cl hi hk hn]; exact kk)
theorem mm_zald (E : mm_C g p s m args c cc own) (hZ : mm_S g s M H locs) {t t0 n : Nat} {cA : ClassId} {f : Nat → Int32} (hM : M a = some (ai t cA n f)) (ht : (tys g.2.2)[t0]? = some (cA, .boolean)) {i : Int32} {k : Nat} (hi : i = nI k) (hk : k < n) (hn : n < 2 ^ 31) (hdg : decode cc pc = .ok (.baload, 1))
    (kk : W p l e R s m args below meth c H locs cells slots Q (F0 m (pc + 1) ls (.int (f k) :: rest))) : W p l e R s m args below meth c H locs cells slots Q (F0 m pc ls (.int i :: .ref a :: rest)) :=
  va_zald E.1 E.2.1 E.2.2.2.2.1 (mm_at hZ hM) 0 t0 rfl ht (ix_in hi hk hn) hdg (by rw [ix_cl hi hk hn]; exact kk)
theorem mm_aald (E : mm_C g p s m args c cc own) (hZ : mm_S g s M H locs) {t t0 n : Nat} {cA : ClassId} {C : String} {f : Nat → Option Nat} (hM : M a = some (aq t cA n f)) (ht : (tys g.2.2)[t0]? = some (cA, .object C)) {i : Int32} {k : Nat} (hi : i = nI k) (hk : k < n) (hn : n < 2 ^ 31) (hdg : decode cc pc = .ok (.aaload, 1))
    (kk : W p l e R s m args below meth c H locs cells slots Q (F0 m (pc + 1) ls (va_rf (f k) :: rest))) : W p l e R s m args below meth c H locs cells slots Q (F0 m pc ls (.int i :: .ref a :: rest)) :=
  va_aldq E.1 E.2.1 E.2.2.2.2.1 (mm_at hZ hM) 0 t0 rfl ht (ix_in hi hk hn) hdg (by rw [ix_cl hi hk hn]; exact kk)
theorem mm_alen (E : mm_C g p s m args c cc own) (hZ : mm_S g s M H locs) {t t0 : Nat} {cA : ClassId} {x : vp_A} {ty : FieldType} (hM : M a = some (t, .inl (cA, x))) (ht : (tys g.2.2)[t0]? = some (cA, ty)) {v : Int32} (hv : Int32.ofNat x.1 = v) (hdg : decode cc pc = .ok (.arraylength, 1))
    (kk : W p l e R s m args below meth c H locs cells slots Q (F0 m (pc + 1) ls (.int v :: rest))) : W p l e R s m args below meth c H locs cells slots Q (F0 m pc ls (.ref a :: rest)) :=
  va_alen E.1 E.2.1 E.2.2.2.2.1 (mm_at hZ hM) 0 t0 rfl ht hv hdg kk
theorem mm_iast (E : mm_C g p s m args c cc own) (hZ : mm_S g s M H locs) {t t0 n : Nat} {cA : ClassId} {f : Nat → Int32} (hM : M a = some (ai t cA n f)) (ht : (tys g.2.2)[t0]? = some (cA, .int)) {i x : Int32} (ht0 : t ≠ 0) {k : Nat} (hi : i = nI k) (hk : k < n) (hn : n < 2 ^ 31) (hdg : decode cc pc = .ok (.iastore, 1))
    (kk : ∀ (H1 : Heap) (locs1 : List Loc), mm_S g s (mm_up M a (ai t cA n (va_up f k x))) H1 locs1 → W p l e R s m args below meth c H1 locs1 cells slots Q (F0 m (pc + 1) ls rest)) : W p l e R s m args below meth c H locs cells slots Q (F0 m pc ls (.int x :: .int i :: .ref a :: rest)) := by
  have hin := ix_in hi hk hn
  have hcl := ix_cl hi hk hn
  subst hcl
  refine W.iast E.1 E.2.1 (hZ.1.2 a _ hM).2 ((E.2.2.2.2.1.2 t0 _ ht).1 n (fun j => .int (f j))) (fun q => by cases q) (by show ¬ (i < 0 ∨ (arrV _ _ _).slots.size ≤ _); rw [arrV_size]; exact hin) rfl rfl hdg fun H1 e z oq => ?_
  refine kk H1 _ (hZ.put hM ht0 ?_ z oq)
  show H1[a]? = some (vp_cell _ _)
  rw [e, vp_cell_i, vp_cell_i, arrV_store]
  congr 2
  funext q
  by_cases hq : q = i.toNatClampNeg
  · subst hq
    simp [updV, va_up]
  · simp [updV, va_up, hq]
theorem mm_zast (E : mm_C g p s m args c cc own) (hZ : mm_S g s M H locs) {t t0 n : Nat} {cA : ClassId} {f : Nat → Int32} (hM : M a = some (ai t cA n f)) (ht : (tys g.2.2)[t0]? = some (cA, .boolean)) {i x : Int32} (ht0 : t ≠ 0) (hx : narrow .boolean (.int x) = .int x) {k : Nat} (hi : i = nI k) (hk : k < n) (hn : n < 2 ^ 31) (hdg : decode cc pc = .ok (.bastore, 1))
    (kk : ∀ (H1 : Heap) (locs1 : List Loc), mm_S g s (mm_up M a (ai t cA n (va_up f k x))) H1 locs1 → W p l e R s m args below meth c H1 locs1 cells slots Q (F0 m (pc + 1) ls rest)) : W p l e R s m args below meth c H locs cells slots Q (F0 m pc ls (.int x :: .int i :: .ref a :: rest)) := by
  have hin := ix_in hi hk hn
  have hcl := ix_cl hi hk hn
  subst hcl
  refine W.zast E.1 E.2.1 (hZ.1.2 a _ hM).2 ((E.2.2.2.2.1.2 t0 _ ht).1 n (fun j => .int (f j))) (fun q => by cases q) (by show ¬ (i < 0 ∨ (arrV _ _ _).slots.size ≤ _); rw [arrV_size]; exact hin) rfl rfl hdg fun H1 e z oq => ?_
  refine kk H1 _ (hZ.put hM ht0 ?_ z oq)
  show H1[a]? = some (vp_cell _ _)
  rw [e, hx, vp_cell_i, vp_cell_i, arrV_store]
  congr 2
  funext q
  by_cases hq : q = i.toNatClampNeg
  · subst hq
    simp [updV, va_up]
  · simp [updV, va_up, hq]
theorem mm_last (E : mm_C g p s m args c cc own) (hZ : mm_S g s M H locs) {t t0 n : Nat} {cA : ClassId} {f : Nat → Int64} (hM : M a = some (al t cA n f)) (ht : (tys g.2.2)[t0]? = some (cA, .long)) {i : Int32} {x : Int64} (ht0 : t ≠ 0) {k : Nat} (hi : i = nI k) (hk : k < n) (hn : n < 2 ^ 31) (hdg : decode cc pc = .ok (.lastore, 1))
    (kk : ∀ (H1 : Heap) (locs1 : List Loc), mm_S g s (mm_up M a (al t cA n (va_up f k x))) H1 locs1 → W p l e R s m args below meth c H1 locs1 cells slots Q (F0 m (pc + 1) ls rest)) : W p l e R s m args below meth c H locs cells slots Q (F0 m pc ls (.long x :: .int i :: .ref a :: rest)) := by
  have hin := ix_in hi hk hn
  have hcl := ix_cl hi hk hn
  subst hcl
  refine W.last E.1 E.2.1 (hZ.1.2 a _ hM).2 ((E.2.2.2.2.1.2 t0 _ ht).1 n (fun j => .long (f j))) (fun q => by cases q) (by show ¬ (i < 0 ∨ (arrV _ _ _).slots.size ≤ _); rw [arrV_size]; exact hin) rfl rfl hdg fun H1 e z oq => ?_
  refine kk H1 _ (hZ.put hM ht0 ?_ z oq)
  show H1[a]? = some (vp_cell _ _)
  rw [e, vp_cell_l, vp_cell_l, arrV_store]
  congr 2
  funext q
  by_cases hq : q = i.toNatClampNeg
  · subst hq
    simp [updV, va_up]
  · simp [updV, va_up, hq]
/-- an object of a known class into an array of references of that class -/
theorem mm_aast (E : mm_C g p s m args c cc own) (hZ : mm_S g s M H locs) {t t0 n ci v tv : Nat} {cA : ClassId} {r : vw_C} {vs : List Value} {f : Nat → Option Nat} (hM : M a = some (aq t cA n f)) (ht : (tys g.2.2)[t0]? = some (cA, .object r.1)) (hv : M v = some (ob tv ci vs)) (hc : classes[ci]? = some r) {i : Int32} (ht0 : t ≠ 0) {k : Nat} (hi : i = nI k) (hk : k < n) (hn : n < 2 ^ 31) (hdg : decode cc pc = .ok (.aastore, 1))
    (kk : ∀ (H1 : Heap) (locs1 : List Loc), mm_S g s (mm_up M a (aq t cA n (va_up f k (some v)))) H1 locs1 → W p l e R s m args below meth c H1 locs1 cells slots Q (F0 m (pc + 1) ls rest)) : W p l e R s m args below meth c H locs cells slots Q (F0 m pc ls (.ref v :: .int i :: .ref a :: rest)) := by
  have hin := ix_in hi hk hn
  have hcl := ix_cl hi hk hn
  subst hcl
  have hlt : i.toNatClampNeg < n := Nat.not_le.mp fun q => hin (Or.inr q)
  have h0 : ¬ i < 0 := fun q => hin (Or.inl q)
  obtain ⟨r', hr', cellV, g1, g2, g3, -⟩ := (hZ.1.2 v _ hv).2
  have hcls := (E.2.2.2.2.1.1 ci r hc).2
  obtain ⟨kA, comp, k1, k2, k3, -⟩ := (E.2.2.2.2.1.2 t0 _ ht).2
  have hcomp : comp = g.2.1.1 ci := Option.some.inj (k3.symm.trans hcls.1)
  subst hcomp
  obtain ⟨kC, hkC, -⟩ := hcls.2
  refine W.aast E.1 E.2.1 (hZ.1.2 a _ hM).2 (fun q h => by cases h) (fun h => by cases h) k1 k2 rfl hkC ⟨h0, by show _ < (arrV _ _ _).slots.size; rw [arrV_size]; exact hlt⟩ g1 (fun q h => by rw [g3] at h; cases h) (by rw [g2]; exact hkC) (by rw [g2]; exact va_assign hcls) rfl rfl hdg fun H1 e z oq => ?_
  refine kk H1 _ (hZ.put hM ht0 ?_ z oq)
  show H1[a]? = some (vp_cell _ _)
  rw [e, vp_cell_q, vp_cell_q, arrV_store]
  congr 2
  funext q
  by_cases hq : q = i.toNatClampNeg
  · subst hq
    simp [updV, va_up, va_rf]
  · simp [updV, va_up, hq]
-- what comes
theorem mm_new (t : Nat) (E : mm_C g p s m args c cc own) (hZ : mm_S g s M H locs) {C : String} {T : u_T} {N ci index : Nat} {ty0 : Nat → FieldType} (hcl : mm_cls ci C T N ty0) (hl : Cond.classLink own index C ∈ GW) (hi : Cond.instantiable C N ∈ GW) (hn : Cond.initialized C ∈ GW) {fs : List Value} (hfs : ∀ j, j < N → defaultValue (ty0 j) = vp_V fs j) (hcells : cells + 1 ≤ R.cells) (hslots : slots + N ≤ R.slots) (hdg : decode cc pc = .ok (.new index, 3))
    (kk : ∀ (q : Nat) (H1 : Heap), g.1 ≤ q → M q = none → mm_S g s (mm_up M q (ob t ci fs)) H1 locs → W p l e R s m args below meth c H1 locs (cells + 1) (slots + N) Q (F0 m (pc + 3) ls (.ref q :: rest))) : W p l e R s m args below meth c H locs cells slots Q (F0 m pc ls rest) := by
  have hKn := E.2.2.2.2.1.1 ci _ hcl.1
  refine W.newcK E.1 E.2.1 E.2.2.1 (E.2.2.2.1 _ hl) (E.2.2.2.1 _ hi) (E.2.2.2.1 _ hn) rfl hdg hcells hslots hKn.2.1 rfl fun H1 kC hkC e1 z1 o1 => ?_
  exact kk H.size H1 hZ.1.1 hZ.fresh (hZ.new ⟨_, hcl.1, (u_born ty0 E.2.2.2.1 hcl.2.1 hKn hkC e1 hcl.2.2.1).to hfs⟩ z1 o1)
theorem mm_newi (t : Nat) (E : mm_C g p s m args c cc own) (hZ : mm_S g s M H locs) {t0 : Nat} {cA : ClassId} (ht : (tys g.2.2)[t0]? = some (cA, .int)) (harr : Cond.arrayClass .int ∈ GW) {n : Int32} {N : Nat} (hn : ¬ n < 0) (hN : n.toNatClampNeg = N) (hbytes : N * 4 ≤ 536870912) (hcells : cells + 1 ≤ R.cells) (hslots : slots + N ≤ R.slots) (hdg : decode cc pc = .ok (.newarray .int, 2))
    (kk : ∀ (q : Nat) (H1 : Heap), g.1 ≤ q → M q = none → mm_S g s (mm_up M q (ai t cA N (fun _ => 0))) H1 locs → W p l e R s m args below meth c H1 locs (cells + 1) (slots + N) Q (F0 m (pc + 2) ls (.ref q :: rest))) : W p l e R s m args below meth c H locs cells slots Q (F0 m pc ls (.int n :: rest)) := by
  refine va_newaK (atype := .int) E.1 E.2.1 (E.2.2.2.1 _ harr) rfl hdg rfl hn hN hbytes hcells hslots rfl fun H1 cB e1 z1 o1 hAr hNm => ?_
  have hcc : cB = cA := Option.some.inj (hNm.symm.trans (E.2.2.2.2.1.2 t0 _ ht).2)
  subst hcc
  refine kk H.size H1 hZ.1.1 hZ.fresh (hZ.new ?_ z1 o1)
  show H1[H.size]? = some (vp_cell _ _)
  rw [vp_cell_i]
  exact e1
theorem mm_newl (t : Nat) (E : mm_C g p s m args c cc own) (hZ : mm_S g s M H locs) {t0 : Nat} {cA : ClassId} (ht : (tys g.2.2)[t0]? = some (cA, .long)) (harr : Cond.arrayClass .long ∈ GW) {n : Int32} {N : Nat} (hn : ¬ n < 0) (hN : n.toNatClampNeg = N) (hbytes : N * 8 ≤ 536870912) (hcells : cells + 1 ≤ R.cells) (hslots : slots + N ≤ R.slots) (hdg : decode cc pc = .ok (.newarray .long, 2))
    (kk : ∀ (q : Nat) (H1 : Heap), g.1 ≤ q → M q = none → mm_S g s (mm_up M q (al t cA N (fun _ => 0))) H1 locs → W p l e R s m args below meth c H1 locs (cells + 1) (slots + N) Q (F0 m (pc + 2) ls (.ref q :: rest))) : W p l e R s m args below meth c H locs cells slots Q (F0 m pc ls (.int n :: rest)) := by
  refine va_newaK (atype := .long) E.1 E.2.1 (E.2.2.2.1 _ harr) rfl hdg rfl hn hN hbytes hcells hslots rfl fun H1 cB e1 z1 o1 hAr hNm => ?_
  have hcc : cB = cA := Option.some.inj (hNm.symm.trans (E.2.2.2.2.1.2 t0 _ ht).2)
  subst hcc
  refine kk H.size H1 hZ.1.1 hZ.fresh (hZ.new ?_ z1 o1)
  show H1[H.size]? = some (vp_cell _ _)
  rw [vp_cell_l]
  exact e1
theorem mm_newz (t : Nat) (E : mm_C g p s m args c cc own) (hZ : mm_S g s M H locs) {t0 : Nat} {cA : ClassId} (ht : (tys g.2.2)[t0]? = some (cA, .boolean)) (harr : Cond.arrayClass .boolean ∈ GW) {n : Int32} {N : Nat} (hn : ¬ n < 0) (hN : n.toNatClampNeg = N) (hbytes : N * 1 ≤ 536870912) (hcells : cells + 1 ≤ R.cells) (hslots : slots + N ≤ R.slots) (hdg : decode cc pc = .ok (.newarray .boolean, 2))
    (kk : ∀ (q : Nat) (H1 : Heap), g.1 ≤ q → M q = none → mm_S g s (mm_up M q (ai t cA N (fun _ => 0))) H1 locs → W p l e R s m args below meth c H1 locs (cells + 1) (slots + N) Q (F0 m (pc + 2) ls (.ref q :: rest))) : W p l e R s m args below meth c H locs cells slots Q (F0 m pc ls (.int n :: rest)) := by
  refine va_newaK (atype := .boolean) E.1 E.2.1 (E.2.2.2.1 _ harr) rfl hdg rfl hn hN hbytes hcells hslots rfl fun H1 cB e1 z1 o1 hAr hNm => ?_
  have hcc : cB = cA := Option.some.inj (hNm.symm.trans (E.2.2.2.2.1.2 t0 _ ht).2)
  subst hcc
  refine kk H.size H1 hZ.1.1 hZ.fresh (hZ.new ?_ z1 o1)
  show H1[H.size]? = some (vp_cell _ _)
  rw [vp_cell_i]
  exact e1
theorem mm_newq (t : Nat) (E : mm_C g p s m args c cc own) (hZ : mm_S g s M H locs) {t0 : Nat} {C : String} {index : Nat} {cA : ClassId} (ht : (tys g.2.2)[t0]? = some (cA, .object C)) (hlink : Cond.classLink own index C ∈ GW) (hover : va_AO C s) {n : Int32} {N : Nat} (hn : ¬ n < 0) (hN : n.toNatClampNeg = N) (hbytes : N * 4 ≤ 536870912) (hcells : cells + 1 ≤ R.cells) (hslots : slots + N ≤ R.slots) (hdg : decode cc pc = .ok (.anewarray index, 3))
    (kk : ∀ (q : Nat) (H1 : Heap), g.1 ≤ q → M q = none → mm_S g s (mm_up M q (aq t cA N (fun _ => none))) H1 locs → W p l e R s m args below meth c H1 locs (cells + 1) (slots + N) Q (F0 m (pc + 3) ls (.ref q :: rest))) : W p l e R s m args below meth c H locs cells slots Q (F0 m pc ls (.int n :: rest)) := by
  subst hN
  refine W.anew E.1 E.2.1 E.2.2.1 (E.2.2.2.1 _ hlink) (va_AO.use hover) rfl hdg rfl hn hbytes hcells hslots fun cB kA comp f1 f2 f3 f4 => ?_
  obtain ⟨kA', comp', k1, k2, k3, k4⟩ := (E.2.2.2.2.1.2 t0 _ ht).2
  have hcc : cB = cA := Option.some.inj (f1.symm.trans k4)
  subst hcc
  generalize hH1 : H.push ({ cls := cB, slots := Array.replicate n.toNatClampNeg .null, vm := .none } : Cell) = H1
  have z1 : H1.size = H.size + 1 := by rw [← hH1, Array.size_push]
  have e1 : H1[H.size]? = some (arrV cB n.toNatClampNeg (fun _ => .null)) := by rw [← hH1, Array.getElem?_push_size, ← arrV_new]
  have o1 : ∀ q : Nat, q < H.size → H1[q]? = H[q]? := fun q hq => by rw [← hH1, Array.getElem?_push, if_neg (Nat.ne_of_lt hq)]
  refine kk H.size H1 hZ.1.1 hZ.fresh (hZ.new ?_ z1 o1)
  show H1[H.size]? = some (vp_cell _ _)
  rw [vp_cell_q]
  exact e1
-- calls
theorem gw_code {y : MethodName} {b : ByteArray} {n : Nat} {ret : Option FieldType} (h : Cond.code y b n ret ∈ GW) : GoodIn GW (.code y b n ret :: GW) := fun w hw => by
  rcases List.mem_cons.mp hw with rfl | hw
  · exact gw_good _ h
  · exact gw_good _ hw
/-- what the tables say of a call's callee: link, code, kind -/
def mm_lk (own : String) (index : Nat) (y : MethodName) : Prop := Cond.methodLink own index y ∈ GW ∨ ∃ host, Cond.methodLinkNest own index y host ∈ NW
def mm_me (y : MethodName) (b : ByteArray) (n : Nat) (ret : Option FieldType) (na : Nat) : Prop := Cond.code y b n ret ∈ GW ∧ Cond.initialized y.cls ∈ GW ∧ y.cls ≠ "java/lang/invoke/MethodHandle" ∧ y.cls ≠ "java/lang/invoke/VarHandle" ∧ (parseMethodDescriptor y.desc).map (fun d => d.parameters.length) = some na
theorem mm_runV (E : mm_C g p s m args c cc own) (hZ : mm_S g s M H locs) {nL : Nat} (hml : c.maxLocals = nL) (hsize : ls.size = nL) {y : MethodName} {b : ByteArray} {n index : Nat} {ret : Option FieldType} {rm : Room} {As : List Value} (hL : mm_lk own index y) (hY : mm_me y b n ret As.length) (hI : Cond.instanceMethod y ∈ GW ∧ Cond.selects y.cls y y ∈ GW) (hC : Ct l g y b n ret rm M (.ref a :: As) Post) {ci N : Nat} {T : u_T} {fs : List Value} {t : Nat} (hM : M a = some (ob t ci fs)) (hc : classes[ci]? = some (y.cls, T, N)) (hR : rm.frames + 1 ≤ R.frames ∧ 8 + (n + 11) + rm.locals ≤ R.locals) (hst : st0 = As.reverse ++ .ref a :: rest) (hW : (rest.map fun v => v.category).sum ≤ 8) (hdg : decode cc pc = .ok (.invokevirtual index, 3)) (hf : cells + rm.cells ≤ R.cells ∧ slots + rm.slots ≤ R.slots) :
    va_Run p l e R s m args below meth c H locs cells slots rm.cells rm.slots (F0 m pc ls st0) rest (mm_Q g Post (Value.ref a :: As).toArray) (fun q => g.1 ≤ q) := by
  have hp : PreV s H y.cls a (mm_Pc g M (.ref a :: As)) As := ⟨mm_blind, va_recv E.2.2.2.2.1 (mm_at hZ hM) hc (q0 := 0) rfl, fun U hU hW => ⟨rfl, E.2.2.2.2.warm hW hZ.2.2 hU, by rw [hU]; exact hZ.1⟩⟩
  rcases hL with hL | ⟨host, hL⟩
  · exact va_runV (C := y.cls) ⟨E.1, E.2.1, hml, E.2.2.1, E.2.2.2.1⟩ hC ⟨callB_of As.length E.2.2.2.1 (gw_code hY.1) rfl rfl rfl (E.2.2.2.1 _ hY.2.1) (E.2.2.2.1 _ hL) hY.2.2 hR, E.2.2.2.1 _ hI.1, E.2.2.2.1 _ hI.2⟩ hp rfl rfl hsize hst (lv_room hW) hdg hf
  · exact va_runVN (C := y.cls) ⟨E.1, E.2.1, hml, E.2.2.1, E.2.2.2.1⟩ hC ⟨va_cnB As.length E.2.2.2.1 (gw_code hY.1) rfl rfl rfl (E.2.2.2.2.2.1 _ hL) (E.2.2.2.1 _ hY.2.1) hY.2.2 hR, E.2.2.2.1 _ hI.1, E.2.2.2.1 _ hI.2⟩ hp rfl rfl hsize hst (lv_room hW) hdg hf
theorem mm_runS (E : mm_C g p s m args c cc own) (hZ : mm_S g s M H locs) {nL : Nat} (hml : c.maxLocals = nL) (hsize : ls.size = nL) {y : MethodName} {b : ByteArray} {n index : Nat} {ret : Option FieldType} {rm : Room} {As : List Value} (hL : mm_lk own index y) (hY : mm_me y b n ret As.length) (hI : Cond.static y ∈ GW) (hC : Ct l g y b n ret rm M As Post) (hR : rm.frames + 1 ≤ R.frames ∧ 8 + (n + 11) + rm.locals ≤ R.locals) (hst : st0 = As.reverse ++ rest) (hW : (rest.map fun v => v.category).sum ≤ 8) (hdg : decode cc pc = .ok (.invokestatic index, 3)) (hf : cells + rm.cells ≤ R.cells ∧ slots + rm.slots ≤ R.slots) :
    va_Run p l e R s m args below meth c H locs cells slots rm.cells rm.slots (F0 m pc ls st0) rest (mm_Q g Post As.toArray) (fun q => g.1 ≤ q) := by
  have hp : PreS s H (mm_Pc g M As) As := ⟨mm_blind, fun U hU hW => ⟨rfl, E.2.2.2.2.warm hW hZ.2.2 hU, by rw [hU]; exact hZ.1⟩⟩
  rcases hL with hL | ⟨host, hL⟩
  · exact va_runS ⟨E.1, E.2.1, hml, E.2.2.1, E.2.2.2.1⟩ hC ⟨callB_of As.length E.2.2.2.1 (gw_code hY.1) rfl rfl rfl (E.2.2.2.1 _ hY.2.1) (E.2.2.2.1 _ hL) hY.2.2 hR, E.2.2.2.1 _ hI⟩ hp rfl rfl hsize hst (lv_room hW) hdg hf
  · exact va_runSN ⟨E.1, E.2.1, hml, E.2.2.1, E.2.2.2.1⟩ hC ⟨va_cnB As.length E.2.2.2.1 (gw_code hY.1) rfl rfl rfl (E.2.2.2.2.2.1 _ hL) (E.2.2.2.1 _ hY.2.1) hY.2.2 hR, E.2.2.2.1 _ hI, trivial⟩ hp rfl rfl hsize hst (lv_room hW) hdg hf
theorem mm_runI (E : mm_C g p s m args c cc own) (hZ : mm_S g s M H locs) {nL : Nat} (hml : c.maxLocals = nL) (hsize : ls.size = nL) {y : MethodName} {b : ByteArray} {n index : Nat} {rm : Room} {As : List Value} (hL : mm_lk own index y) (hY : mm_me y b n none As.length) (hI : y.name = "<init>" ∧ Cond.instanceMethod y ∈ GW) (hC : Ct l g y b n none rm M (.ref a :: As) Post) (hR : rm.frames + 1 ≤ R.frames ∧ 8 + (n + 11) + rm.locals ≤ R.locals) (hst : st0 = As.reverse ++ .ref a :: rest) (hW : (rest.map fun v => v.category).sum ≤ 8) (hdg : decode cc pc = .ok (.invokespecial index, 3)) (hf : cells + rm.cells ≤ R.cells ∧ slots + rm.slots ≤ R.slots) :
    va_Run p l e R s m args below meth c H locs cells slots rm.cells rm.slots (F0 m pc ls st0) rest (mm_Q g Post (Value.ref a :: As).toArray) (fun q => g.1 ≤ q) := by
  have hp : PreS s H (mm_Pc g M (.ref a :: As)) (.ref a :: As) := ⟨mm_blind, fun U hU hW => ⟨rfl, E.2.2.2.2.warm hW hZ.2.2 hU, by rw [hU]; exact hZ.1⟩⟩
  rcases hL with hL | ⟨host, hL⟩
  · exact va_runI ⟨E.1, E.2.1, hml, E.2.2.1, E.2.2.2.1⟩ hC ⟨callB_of As.length E.2.2.2.1 (gw_code hY.1) rfl rfl rfl (E.2.2.2.1 _ hY.2.1) (E.2.2.2.1 _ hL) hY.2.2 hR, hI.1, E.2.2.2.1 _ hI.2⟩ hp rfl rfl hsize hst (lv_room hW) hdg hf
  · exact va_runIN ⟨E.1, E.2.1, hml, E.2.2.1, E.2.2.2.1⟩ hC ⟨va_cnB As.length E.2.2.2.1 (gw_code hY.1) rfl rfl rfl (E.2.2.2.2.2.1 _ hL) (E.2.2.2.1 _ hY.2.1) hY.2.2 hR, hI.1, E.2.2.2.1 _ hI.2⟩ hp rfl rfl hsize hst (lv_room hW) hdg hf
theorem mm_call {mc ms : Nat} {av : Array Value} (hr : va_Run p l e R s m args below meth c H locs cells slots mc ms (F0 m pc ls st0) rest (mm_Q g Post av) (fun q => g.1 ≤ q)) (hZ : mm_S g s M H locs)
    (kk : ∀ (v : Option Value) (M1 : mm_M) (H1 : Heap) (locs1 : List Loc), Post v M1 → mm_S g s M1 H1 locs1 → W p l e R s m args below meth c H1 locs1 (cells + mc) (slots + ms) Q (F0 m (pc + 3) ls (v.toList ++ rest))) : W p l e R s m args below meth c H locs cells slots Q (F0 m pc ls st0) := by
  intro T hT X
  obtain ⟨v, st₀, t, T', L, h0, X', hL, e1, e2, ⟨⟨v', M1, hv, hp, hok⟩, hz, hk⟩, st⟩ := hr T hT X
  cases hv
  rw [h0] at hz hk
  obtain ⟨t2, a1, b1⟩ := kk v M1 T'.heap (locs ++ L) hp ⟨by rw [e1]; exact hok, hZ.2.1, Nat.le_trans hZ.2.2.1 (by rw [e1]; exact hz), fun q h1 h2 => by rw [e1, hk q (Nat.lt_of_lt_of_le h1 hZ.2.2.1) h2]; exact hZ.2.2.2.1 q h1 h2, fun q hq => by
      rcases List.mem_append.mp hq with h | h
      · exact hZ.2.2.2.2 q h
      · exact hL q h⟩ T' rfl X'
  exact ⟨t2, st t2 a1, b1⟩
theorem mm_calli {mc ms : Nat} {av : Array Value} {post : Int32 → mm_M → Prop} (hr : va_Run p l e R s m args below meth c H locs cells slots mc ms (F0 m pc ls st0) rest (mm_Q g (fun v M' => ∃ r, v = some (.int r) ∧ post r M') av) (fun q => g.1 ≤ q)) (hZ : mm_S g s M H locs)
    (kk : ∀ (r : Int32) (M1 : mm_M) (H1 : Heap) (locs1 : List Loc), post r M1 → mm_S g s M1 H1 locs1 → W p l e R s m args below meth c H1 locs1 (cells + mc) (slots + ms) Q (F0 m (pc + 3) ls (.int r :: rest))) : W p l e R s m args below meth c H locs cells slots Q (F0 m pc ls st0) :=
  mm_call hr hZ (fun v M1 H1 locs1 hp hS => by obtain ⟨r, rfl, hp⟩ := hp; exact kk r M1 H1 locs1 hp hS)
theorem mm_calll {mc ms : Nat} {av : Array Value} {post : Int64 → mm_M → Prop} (hr : va_Run p l e R s m args below meth c H locs cells slots mc ms (F0 m pc ls st0) rest (mm_Q g (fun v M' => ∃ r, v = some (.long r) ∧ post r M') av) (fun q => g.1 ≤ q)) (hZ : mm_S g s M H locs)
    (kk : ∀ (r : Int64) (M1 : mm_M) (H1 : Heap) (locs1 : List Loc), post r M1 → mm_S g s M1 H1 locs1 → W p l e R s m args below meth c H1 locs1 (cells + mc) (slots + ms) Q (F0 m (pc + 3) ls (.long r :: rest))) : W p l e R s m args below meth c H locs cells slots Q (F0 m pc ls st0) :=
  mm_call hr hZ (fun v M1 H1 locs1 hp hS => by obtain ⟨r, rfl, hp⟩ := hp; exact kk r M1 H1 locs1 hp hS)
theorem mm_callq {mc ms : Nat} {av : Array Value} {post : Option Nat → mm_M → Prop} (hr : va_Run p l e R s m args below meth c H locs cells slots mc ms (F0 m pc ls st0) rest (mm_Q g (fun v M' => ∃ r, v = some (va_rf r) ∧ post r M') av) (fun q => g.1 ≤ q)) (hZ : mm_S g s M H locs)
    (kk : ∀ (r : Option Nat) (M1 : mm_M) (H1 : Heap) (locs1 : List Loc), post r M1 → mm_S g s M1 H1 locs1 → W p l e R s m args below meth c H1 locs1 (cells + mc) (slots + ms) Q (F0 m (pc + 3) ls (va_rf r :: rest))) : W p l e R s m args below meth c H locs cells slots Q (F0 m pc ls st0) :=
  mm_call hr hZ (fun v M1 H1 locs1 hp hS => by obtain ⟨r, rfl, hp⟩ := hp; exact kk r M1 H1 locs1 hp hS)
theorem mm_callv {mc ms : Nat} {av : Array Value} {post : mm_M → Prop} (hr : va_Run p l e R s m args below meth c H locs cells slots mc ms (F0 m pc ls st0) rest (mm_Q g (fun v M' => v = none ∧ post M') av) (fun q => g.1 ≤ q)) (hZ : mm_S g s M H locs)
    (kk : ∀ (M1 : mm_M) (H1 : Heap) (locs1 : List Loc), post M1 → mm_S g s M1 H1 locs1 → W p l e R s m args below meth c H1 locs1 (cells + mc) (slots + ms) Q (F0 m (pc + 3) ls rest)) : W p l e R s m args below meth c H locs cells slots Q (F0 m pc ls st0) :=
  mm_call hr hZ (fun v M1 H1 locs1 hp hS => by obtain ⟨rfl, hp⟩ := hp; exact kk M1 H1 locs1 hp hS)
theorem mm_objI (E : mm_C g p s m args c cc own) {nL : Nat} (hml : c.maxLocals = nL) (hsize : ls.size = nL) {idx : Nat} (hL : Cond.methodLink own idx objectInit ∈ GW) (hI : Cond.instanceMethod objectInit ∈ GW) (hcode : Cond.code objectInit ⟨#[0xb1]⟩ 1 none ∈ GW) (hf : 1 ≤ R.frames) (hl : (rest.map fun v => v.category).sum + 12 ≤ R.locals) (hdg : decode cc pc = .ok (.invokespecial idx, 3))
    (kk : W p l e R s m args below meth c H locs cells slots Q (F0 m (pc + 3) ls rest)) : W p l e R s m args below meth c H locs cells slots Q (F0 m pc ls (.ref a :: rest)) :=
  W.objInit E.1 E.2.1 E.2.2.1 (E.2.2.2.1 _ hL) (E.2.2.2.1 _ hI) (E.2.2.2.1 _ hcode) rfl (hsize.trans hml.symm) rfl hdg hf (by show 2 * 0 + _ + 12 ≤ _; omega) kk
theorem mm_cast (E : mm_C g p s m args c cc own) (hZ : mm_S g s M H locs) {ci index : Nat} {C : String} {T : u_T} {N : Nat} {fs : List Value} {t : Nat} (hM : M a = some (ob t ci fs)) (hc : classes[ci]? = some (C, T, N)) (hl : Cond.classLink own index C ∈ GW) (hdg : decode cc pc = .ok (.checkcast index, 3))
    (kk : W p l e R s m args below meth c H locs cells slots Q (F0 m (pc + 3) ls (.ref a :: rest))) : W p l e R s m args below meth c H locs cells slots Q (F0 m pc ls (.ref a :: rest)) :=
  va_castS E.1 E.2.1 E.2.2.1 (E.2.2.2.1 _ hl) (E.2.2.2.2.1.1 ci _ hc).2 (va_recv E.2.2.2.2.1 (mm_at hZ hM) hc (q0 := 0) rfl) hdg kk
-- Java's own: statics, mirrors, copies
theorem mm_dflt (E : mm_C g p s m args c cc own) (hZ : mm_S g s M H locs) {index : Nat} (hl : Cond.fieldLink own index "java/util/ArrayList" "DEFAULTCAPACITY_EMPTY_ELEMENTDATA" "[Ljava/lang/Object;" ∈ GW) (hdg : decode cc pc = .ok (.getstatic index, 3))
    (kk : W p l e R s m args below meth c H locs cells slots Q (F0 m (pc + 3) ls (.ref (g_df g) :: rest))) : W p l e R s m args below meth c H locs cells slots Q (F0 m pc ls rest) :=
  va_gets E.1 E.2.1 E.2.2.2.2.2.2.2.2.2.2.1 hZ.2.2 E.2.2.1 (E.2.2.2.1 _ hl) (fun _ h => h) hdg kk
theorem mm_dlen (E : mm_C g p s m args c cc own) (hZ : mm_S g s M H locs) (hdg : decode cc pc = .ok (.arraylength, 1))
    (kk : W p l e R s m args below meth c H locs cells slots Q (F0 m (pc + 1) ls (.int 0 :: rest))) : W p l e R s m args below meth c H locs cells slots Q (F0 m pc ls (.ref (g_df g) :: rest)) :=
  va_tlen E.1 E.2.1 E.2.2.2.2.2.2.2.2.2.2.2.1 hZ.2.2 rfl hdg kk
theorem mm_mirr (E : mm_C g p s m args c cc own) {index : Nat} (hl : Cond.classLink own index "[Ljava/lang/Object;" ∈ GW) (hdg : decode cc pc = .ok (.ldc index, 2))
    (kk : W p l e R s m args below meth c H locs cells slots Q (F0 m (pc + 2) ls (.ref (g_mi g) :: rest))) : W p l e R s m args below meth c H locs cells slots Q (F0 m pc ls rest) :=
  va_ldcM E.1 E.2.1 E.2.2.1 (E.2.2.2.1 _ hl) E.2.2.2.2.2.2.2.2.1 hdg kk
/-- an object of a known class into an array of another class of references that takes it -/
theorem mm_aastO (E : mm_C g p s m args c cc own) (hZ : mm_S g s M H locs) {t t0 n ci v tv : Nat} {cA : ClassId} {C : String} {r : vw_C} {vs : List Value} {f : Nat → Option Nat} (hM : M a = some (aq t cA n f)) (ht : (tys g.2.2)[t0]? = some (cA, .object C)) (hca : Cond.castable r.1 C ∈ NW) (hv : M v = some (ob tv ci vs)) (hc : classes[ci]? = some r) {i : Int32} (ht0 : t ≠ 0) {k : Nat} (hi : i = nI k) (hk : k < n) (hn : n < 2 ^ 31) (hdg : decode cc pc = .ok (.aastore, 1))
    (kk : ∀ (H1 : Heap) (locs1 : List Loc), mm_S g s (mm_up M a (aq t cA n (va_up f k (some v)))) H1 locs1 → W p l e R s m args below meth c H1 locs1 cells slots Q (F0 m (pc + 1) ls rest)) : W p l e R s m args below meth c H locs cells slots Q (F0 m pc ls (.ref v :: .int i :: .ref a :: rest)) := by
  have hin := ix_in hi hk hn
  have hcl := ix_cl hi hk hn
  subst hcl
  have hlt : i.toNatClampNeg < n := Nat.not_le.mp fun q => hin (Or.inr q)
  have h0 : ¬ i < 0 := fun q => hin (Or.inl q)
  obtain ⟨r', hr', cellV, g1, g2, g3, -⟩ := (hZ.1.2 v _ hv).2
  have hcls := (E.2.2.2.2.1.1 ci r hc).2
  obtain ⟨kA, comp, k1, k2, k3, -⟩ := (E.2.2.2.2.1.2 t0 _ ht).2
  obtain ⟨kE, hkE, -⟩ := Vm.findClass_spec k3
  obtain ⟨c0, t1, f1, f2, f3⟩ := Cond.castable_spec (va_Nw.use (A := args) rfl (E.2.2.2.2.2.1 _ hca))
  cases hcls.1.symm.trans f1
  cases k3.symm.trans f2
  obtain ⟨kC, hkC, -⟩ := hcls.2
  refine W.aast E.1 E.2.1 (hZ.1.2 a _ hM).2 (fun q h => by cases h) (fun h => by cases h) k1 k2 rfl hkE ⟨h0, by show _ < (arrV _ _ _).slots.size; rw [arrV_size]; exact hlt⟩ g1 (fun q h => by rw [g3] at h; cases h) (by rw [g2]; exact hkC) (by rw [g2]; exact f3) rfl rfl hdg fun H1 e z oq => ?_
  refine kk H1 _ (hZ.put hM ht0 ?_ z oq)
  show H1[a]? = some (vp_cell _ _)
  rw [e, vp_cell_q, vp_cell_q, arrV_store]
  congr 2
  funext q
  by_cases hq : q = i.toNatClampNeg
  · subst hq
    simp [updV, va_up, va_rf]
  · simp [updV, va_up, hq]
/-- System.arraycopy of references, from the first place on -/
theorem mm_copy (E : mm_C g p s m args c cc own) (hZ : mm_S g s M H locs) {nL : Nat} (hml : c.maxLocals = nL) (hsz : ls.size = nL) {index : Nat} (hlink : Cond.methodLink own index arraycopyName ∈ GW) (hnat : Cond.native arraycopyName ∈ GW) (hstat : Cond.static arraycopyName ∈ GW) (hini : Cond.initialized "java/lang/System" ∈ GW)
    {a0 td ts t0 n0 n1 k : Nat} {cA : ClassId} {f f1 : Nat → Option Nat} {C : String} (ha0 : M a0 = some (aq ts cA n0 f)) (ha1 : M a = some (aq td cA n1 f1)) (ht : (tys g.2.2)[t0]? = some (cA, .object C)) (htd : td ≠ 0) {n : Int32} (hn : n = nI k) (hk0 : k ≤ n0) (hk1 : k ≤ n1) (hn1 : n1 < 2 ^ 31) (hel : ∀ i : Nat, i < k → ∀ y : Nat, f i = some y → ∃ (tv ci : Nat) (vs : List Value) (r : vw_C), M y = some (ob tv ci vs) ∧ classes[ci]? = some r ∧ Cond.castable r.1 C ∈ NW)
    (hframes : 1 ≤ R.frames) (hlocals : (rest.map fun v => v.category).sum + (nativeFrameWords "java/lang/System" "arraycopy" 5 + 11) ≤ R.locals) (hdg : decode cc pc = .ok (.invokestatic index, 3))
    (kk : ∀ (H1 : Heap) (locs1 : List Loc), mm_S g s (mm_up M a (aq td cA n1 (va_cpy f f1 0 0 k))) H1 locs1 → W p l e R s m args below meth c H1 locs1 cells slots Q (F0 m (pc + 3) ls rest)) : W p l e R s m args below meth c H locs cells slots Q (F0 m pc ls (.int n :: .int 0 :: .ref a :: .int 0 :: .ref a0 :: rest)) := by
  subst hn
  have hcl : (nI k).toNatClampNeg = k := nI_clamp (by omega)
  have hti : (nI k).toInt = (k : Int) := nI_toInt (by omega)
  have h00 : (0 : Int32).toNatClampNeg = 0 := by decide
  have h0i : (0 : Int32).toInt = 0 := by decide
  intro T hT X
  have hc0 : H[a0]? = some (vp_cell cA (n0, .inr (.inr (.inr (.inr f))))) := (hZ.1.2 a0 _ ha0).2
  have hc1 : H[a]? = some (vp_cell cA (n1, .inr (.inr (.inr (.inr f1))))) := (hZ.1.2 a _ ha1).2
  obtain ⟨-, k0, hk0', cm0, hkk0⟩ := (E.2.2.2.2.1.2 t0 _ ht).1 n0 (fun j => va_rf (f j))
  obtain ⟨-, k1, hk1', cm1, hkk1⟩ := (E.2.2.2.2.1.2 t0 _ ht).1 n1 (fun j => va_rf (f1 j))
  obtain ⟨vm', X', step⟩ := X.arraycopy E.1 E.2.2.1 (E.2.2.2.1 _ hlink) (E.2.2.2.1 _ hnat) (E.2.2.2.1 _ hstat) (E.2.2.2.1 _ hini) (src := a0) (dst := a) (cs := vp_cell cA (n0, .inr (.inr (.inr (.inr f))))) (cd := vp_cell cA (n1, .inr (.inr (.inr (.inr f1))))) (srcPos := 0) (destPos := 0) (n := nI k) (by rw [hT]; exact hc0) (by rw [hT]; exact hc1)
    (fun _ h => by cases h) (fun _ h => by cases h) (fun h => by cases h) (fun h => by cases h) hk0' hk1' hkk0 hkk1 rfl (by decide) (by decide) (nI_pos (by omega))
    (by rw [h0i, hti]; show ¬ _ > ((arrV cA n0 (fun j => va_rf (f j))).slots.size : Int); rw [arrV_size]; omega)
    (by rw [h0i, hti]; show ¬ _ > ((arrV cA n1 (fun j => va_rf (f1 j))).slots.size : Int); rw [arrV_size]; omega)
    (fun vm₁ hal i hi => by
      rw [hcl] at hi
      have e : (vp_cell cA (n0, .inr (.inr (.inr (.inr f))))).slots.getD ((0 : Int32).toNatClampNeg + i) .null = va_rf (f i) := by
        show (arrV cA n0 (fun j => va_rf (f j))).slots.getD _ _ = _
        rw [h00, Nat.zero_add, Array.getD_eq_getD_getElem?, arrV_read _ _ (by omega)]
        rfl
      rw [e]
      cases hy : f i with
      | none => exact ⟨rfl, trivial⟩
      | some y =>
        obtain ⟨tv, ci, vs, r, q1, q2, q3⟩ := hel i hi y hy
        obtain ⟨r', hr', cellV, g1, g2, g3, -⟩ := (hZ.1.2 y _ q1).2
        have hcls := (E.2.2.2.2.1.1 ci r q2).2
        obtain ⟨c0, t1, f1', f2', f3'⟩ := Cond.castable_spec (va_Nw.use (A := args) rfl (E.2.2.2.2.2.1 _ q3))
        cases hcls.1.symm.trans f1'
        obtain ⟨kC, hkC, -⟩ := hcls.2
        obtain ⟨kA, comp, r1, r2, r3, -⟩ := (E.2.2.2.2.1.2 t0 _ ht).2
        cases hk1'.symm.trans r1
        cases hkk1.symm.trans r2
        cases r3.symm.trans f2'
        obtain ⟨kE, hkE, -⟩ := Vm.findClass_spec r3
        obtain ⟨kC', hkC', -⟩ := hal.2.2 _ _ hkC
        obtain ⟨kE', hkE', -⟩ := hal.2.2 _ _ hkE
        refine ⟨rfl, cellV, (show T.heap[y]? = some cellV by rw [hT]; exact g1), (fun q h => by rw [h] at g3; cases g3), ⟨kC', by rw [g2]; exact hkC'⟩, ?_, ?_⟩
        · exact ⟨kE', hkE'⟩
        · show vm₁.assignable _ _ = true
          rw [hal.assignable, g2]
          exact f3')
    (g := F0 m pc ls (.int (nI k) :: .int 0 :: .ref a :: .int 0 :: .ref a0 :: rest)) rfl (hsz.trans hml.symm) (rest := rest) rfl (by rw [E.2.1]; exact hdg) hframes (by show 2 * 0 + _ + _ ≤ _; omega)
  have e1 : copied (vp_cell cA (n0, .inr (.inr (.inr (.inr f))))) (vp_cell cA (n1, .inr (.inr (.inr (.inr f1))))) 0 0 (nI k) = vp_cell cA (n1, .inr (.inr (.inr (.inr (va_cpy f f1 0 0 k))))) := by
    rw [vp_cell_q, vp_cell_q, vp_cell_q]
    refine (va_copied (sp := (0 : Int32).toNatClampNeg) (dp := (0 : Int32).toNatClampNeg) (n := (nI k).toNatClampNeg) (n0 := n0) (n1 := n1) (fun z => va_rf z) cA cA f f1 (by rw [h00, hcl]; omega)).trans ?_
    rw [h00, hcl]
  rw [e1] at X' step
  have hl : a < H.size := (Array.getElem?_eq_some_iff.mp hc1).1
  have hheap : ((T.setVm vm').setCell a (vp_cell cA (n1, .inr (.inr (.inr (.inr (va_cpy f f1 0 0 k))))))).heap = H.setIfInBounds a (vp_cell cA (n1, .inr (.inr (.inr (.inr (va_cpy f f1 0 0 k)))))) := by rw [← hT]; rfl
  have oq : ∀ q : Nat, q ≠ a → (H.setIfInBounds a (vp_cell cA (n1, .inr (.inr (.inr (.inr (va_cpy f f1 0 0 k)))))))[q]? = H[q]? := fun q hq => by simp [Array.getElem?_setIfInBounds, Ne.symm hq]
  have hpa := (hZ.1.2 a _ ha1).1 htd
  obtain ⟨t, b1, b2⟩ := kk _ _ ⟨hZ.1.put ha1 (show (H.setIfInBounds a _)[a]? = some _ by simp [Array.getElem?_setIfInBounds, hl]) (by simp) oq, hZ.2.1, by simp; exact hZ.2.2.1, fun q g1 g2 => by
      rw [oq q (fun e => g2 (by rw [e]; exact hpa))]
      exact hZ.2.2.2.1 q g1 g2, fun q hq => by
      rcases List.mem_append.mp hq with h | h
      · exact hZ.2.2.2.2 q h
      · obtain ⟨z, -, hz⟩ := List.mem_map.mp h
        rw [← hz]
        exact hpa⟩ _ hheap X'
  exact ⟨t, step t b1, b2⟩
end MM
