theorem fs_Mod : ∀ j, j < 26 → defaultValue (t_Mod j) = vp_V [.int 0, .int 0, .null, .null, .null, .null, .null, .null, .null, .null, .null, .null, .null, .null, .null, .null, .int 0, .long 0, .int 0, .null, .null, .null, .null, .null, .int 0, .null] j := fun j hj => by
  match j, hj with
  | 0, _ => rfl
  | 1, _ => rfl
  | 2, _ => rfl
  | 3, _ => rfl
  | 4, _ => rfl
  | 5, _ => rfl
  | 6, _ => rfl
  | 7, _ => rfl
  | 8, _ => rfl
  | 9, _ => rfl
  | 10, _ => rfl
  | 11, _ => rfl
  | 12, _ => rfl
  | 13, _ => rfl
  | 14, _ => rfl
  | 15, _ => rfl
  | 16, _ => rfl
  | 17, _ => rfl
  | 18, _ => rfl
  | 19, _ => rfl
  | 20, _ => rfl
  | 21, _ => rfl
  | 22, _ => rfl
  | 23, _ => rfl
  | 24, _ => rfl
  | 25, _ => rfl
  | j + 26, h => exact absurd h (by omega)
/-! THE LAW: what is known at its entry -/
theorem mm_arrP {args : Array Value} {s : State} {ty : FieldType} (h : (Cond.arrayClass ty).before args s = true) (hv : ∀ cA, s.vm.findClass ("[" ++ ty.toString) = some cA → va_RA s cA ty) : ∃ cA, ArrOfT s cA ty ∧ va_RA s cA ty := by
  obtain ⟨c, k, comp, h1, h2, h3⟩ := Cond.arrayClass_spec h
  exact ⟨c, fun n z => ⟨fun k h => (by cases h), k, h2, comp, h3⟩, hv c h1⟩
theorem mm_arrO {args : Array Value} {s : State} {C : String} (h : (Cond.arrayOver (.object C)).before args s = true) : ∃ cA, ArrOfT s cA (.object C) ∧ va_RA s cA (.object C) := by
  obtain ⟨comp, c, k, h1, h2, h3, h4, h5⟩ := Cond.arrayOver_spec h
  exact ⟨c, fun n z => ⟨fun k h => (by cases h), k, h3, comp, h4⟩, k, comp, h3, h4, h1, h5⟩
def R_law : String := "ExpectRowsLaw"
def lw_At (p : Program) (s : State) (m : MethodId) (meth : Method) (c : Code) (b L : Nat) (xs : Nat → Int32) : Prop :=
  p.tables.exec = Jvm.exec ∧ c.code = code ∧ meth.sig.returnType = ret ∧ c.maxLocals = 8 ∧ s.vm.findClass R_law = some m.cls ∧ (∀ w ∈ lw_tbl, w.before #[Value.ref b] s = true) ∧ va_X b L xs s s.heap ∧ b < s.heap.size ∧ meth.locks = false ∧ (Jvm.Cond.and given_1 narrow_1).before #[Value.ref b] s = true
set_option maxHeartbeats 4000000 in
set_option maxRecDepth 100000 in
theorem law_K {p : Program} {s : State} {m : MethodId} {meth : Method} {c : Code} {b L : Nat} {xs : Nat → Int32} (C0 : lw_At p s m meth c b L xs) : ∃ g : mm_G, g.1 = s.heap.size ∧ mm_K g s := by
  obtain ⟨hx, hb, hr, hml, hown, hts, hX, hbl, hlocks, hgv⟩ := C0
  have hG : ∀ w ∈ GW, w.before #[Value.ref b] s = true := fun w h => hts w (List.mem_filter.mp h).1
  have hs := flat_of_before _ hgv
  have hA : ∀ a : Nat, a < s.heap.size → ¬ (fun q : Nat => s.heap.size ≤ q) a := fun a h => Nat.not_le.mpr h
  obtain ⟨c0, i0, hK0⟩ := u_known (C := R_X) (T := F_X) (N := 7) (n := 7) hG cl_X.2.1 (hG _ ni_X.1)
  obtain ⟨c1, i1, hK1⟩ := u_known (C := R_Alarm) (T := F_Alarm) (N := 5) (n := 5) hG cl_Alarm.2.1 (hG _ ni_Alarm.1)
  obtain ⟨c2, i2, hK2⟩ := u_known (C := R_AlarmL) (T := F_AlarmL) (N := 1) (n := 1) hG cl_AlarmL.2.1 (hG _ ni_AlarmL.1)
  obtain ⟨c3, i3, hK3⟩ := u_known (C := R_Deliv) (T := F_Deliv) (N := 3) (n := 3) hG cl_Deliv.2.1 (hG _ ni_Deliv.1)
  obtain ⟨c4, i4, hK4⟩ := u_known (C := R_Holi) (T := F_Holi) (N := 2) (n := 2) hG cl_Holi.2.1 (hG _ ni_Holi.1)
  obtain ⟨c5, i5, hK5⟩ := u_known (C := R_Item) (T := F_Item) (N := 8) (n := 8) hG cl_Item.2.1 (hG _ ni_Item.1)
  obtain ⟨c6, i6, hK6⟩ := u_known (C := R_Cnts) (T := F_Cnts) (N := 2) (n := 2) hG cl_Cnts.2.1 (hG _ ni_Cnts.1)
  obtain ⟨c7, i7, hK7⟩ := u_known (C := R_Row) (T := F_Row) (N := 7) (n := 7) hG cl_Row.2.1 (hG _ ni_Row.1)
  obtain ⟨c8, i8, hK8⟩ := u_known (C := R_RowL) (T := F_RowL) (N := 2) (n := 2) hG cl_RowL.2.1 (hG _ ni_RowL.1)
  obtain ⟨c9, i9, hK9⟩ := u_known (C := R_Mod) (T := F_Mod) (N := 26) (n := 26) hG cl_Mod.2.1 (hG _ ni_Mod.1)
  obtain ⟨c10, i10, hK10⟩ := u_known (C := R_AL) (T := F_AL) (N := 3) (n := 3) hG cl_AL.2.1 (hG _ ni_AL.1)
  obtain ⟨d0, hd0⟩ := mm_arrP (ty := .int) (hG _ w_110) (fun _ h => h)
  obtain ⟨d1, hd1⟩ := mm_arrP (ty := .long) (hG _ w_84) (fun _ h => h)
  obtain ⟨d2, hd2⟩ := mm_arrP (ty := .boolean) (hG _ w_692) (fun _ h => h)
  have ho3 : (Cond.arrayOver (.object "ExpectRows$Item")).before #[Value.ref b] s = true := hts _ (List.mem_append_right _ (List.mem_append_left _ (List.mem_of_getElem? (i := 128) rfl)))
  obtain ⟨d3, hd3⟩ := mm_arrO ho3
  have ho4 : (Cond.arrayOver (.object "java/lang/Object")).before #[Value.ref b] s = true := hts _ (List.mem_append_right _ (List.mem_append_right _ (List.mem_append_left _ (List.mem_of_getElem? (i := 50) rfl))))
  obtain ⟨d4, hd4⟩ := mm_arrO ho4
  obtain ⟨mi, hmi⟩ := va_Mi.of (hs (Cond.isRef (.mirror "[Ljava/lang/Object;")) (by decide +kernel))
  obtain ⟨tx, _, _, _, htx, -⟩ := Cond.exactly_spec (hs (Cond.exactly (.string "ExpectRows" 139) "java/lang/String") (by decide +kernel))
  have hsr : (Cond.stringRef "ExpectRows" 139 "no expectation was begun at this place").before #[Value.ref b] s = true := hts _ (List.mem_append_right _ (List.mem_append_right _ (List.mem_append_right _ (List.mem_append_left _ (List.mem_of_getElem? (i := 97) rfl)))))
  obtain ⟨df, hdf, hT⟩ := va_Tof (N := 0) (f := fun _ => .null) (A := fun q : Nat => s.heap.size ≤ q) (by decide) (hs (Cond.arrayOf (.static "java/util/ArrayList" "DEFAULTCAPACITY_EMPTY_ELEMENTDATA" "[Ljava/lang/Object;") (.object "java/lang/Object")) (by decide +kernel)) (va_eqt (hs (Cond.eq (.length (.static "java/util/ArrayList" "DEFAULTCAPACITY_EMPTY_ELEMENTDATA" "[Ljava/lang/Object;")) (.int 0)) (by decide +kernel))) (fun j hj => absurd hj (Nat.not_lt_zero j)) hA
  have hZ := va_Zof (A := fun q : Nat => s.heap.size ≤ q) (hts (Cond.laysStatic "java/util/ArrayList" "DEFAULTCAPACITY_EMPTY_ELEMENTDATA" "[Ljava/lang/Object;") (List.mem_append_right _ (List.mem_append_left _ (List.mem_of_getElem? (i := 51) rfl)))) (hG _ w_5) hdf hA
  have hS1 := mm_St.of (A := fun q : Nat => s.heap.size ≤ q) (hts (Cond.laysStatic "java/lang/Throwable" "UNASSIGNED_STACK" "[Ljava/lang/StackTraceElement;") (List.mem_append_right _ (List.mem_append_right _ (List.mem_append_right _ (List.mem_append_left _ (List.mem_of_getElem? (i := 85) rfl)))))) (hs (Cond.isRef (.static "java/lang/Throwable" "UNASSIGNED_STACK" "[Ljava/lang/StackTraceElement;")) (by decide +kernel)) hA
  have hS2 := mm_St.of (A := fun q : Nat => s.heap.size ≤ q) (hts (Cond.laysStatic "java/lang/Throwable" "SUPPRESSED_SENTINEL" "Ljava/util/List;") (List.mem_append_right _ (List.mem_append_right _ (List.mem_append_right _ (List.mem_append_left _ (List.mem_of_getElem? (i := 87) rfl)))))) (hs (Cond.isRef (.static "java/lang/Throwable" "SUPPRESSED_SENTINEL" "Ljava/util/List;")) (by decide +kernel)) hA
  refine ⟨(s.heap.size, (fun k => match k with | 0 => c0 | 1 => c1 | 2 => c2 | 3 => c3 | 4 => c4 | 5 => c5 | 6 => c6 | 7 => c7 | 8 => c8 | 9 => c9 | _ => c10, fun k => match k with | 0 => i0 | 1 => i1 | 2 => i2 | 3 => i3 | 4 => i4 | 5 => i5 | 6 => i6 | 7 => i7 | 8 => i8 | 9 => i9 | 10 => i10 | _ => (fun j => match j with | 0 => df | 1 => mi | _ => tx)), fun k => match k with | 0 => d0 | 1 => d1 | 2 => d2 | 3 => d3 | _ => d4), rfl, ⟨fun k q hq => ?_, fun k q hq => ?_⟩, fun w hw => va_Nw.of (nw_tab (List.mem_filter.mp hw).2) (hts w (List.mem_filter.mp hw).1), va_AO.of ho3, va_AO.of ho4, hmi, vk_R.of hsr htx, hZ, hT, hS1, hS2⟩
  · match k, hq with
    | 0, hq => cases hq; exact hK0
    | 1, hq => cases hq; exact hK1
    | 2, hq => cases hq; exact hK2
    | 3, hq => cases hq; exact hK3
    | 4, hq => cases hq; exact hK4
    | 5, hq => cases hq; exact hK5
    | 6, hq => cases hq; exact hK6
    | 7, hq => cases hq; exact hK7
    | 8, hq => cases hq; exact hK8
    | 9, hq => cases hq; exact hK9
    | 10, hq => cases hq; exact hK10
    | k + 11, hq => simp [classes] at hq
  · match k, hq with
    | 0, hq => cases hq; exact hd0
    | 1, hq => cases hq; exact hd1
    | 2, hq => cases hq; exact hd2
    | 3, hq => cases hq; exact hd3
    | 4, hq => cases hq; exact hd4
    | k + 5, hq => simp [tys] at hq
