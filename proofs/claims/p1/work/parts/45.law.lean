def lw_P (b : Addr) (xs : List Int32) (args : Array Value) (s : State) : Prop := args = #[.ref b] ∧ s.IntsAt b xs ∧ xs.length ≤ 7 ∧ (Jvm.Cond.and given_1 narrow_1).before args s = true
def lw_Q (_ : Array Value) (s : State) (o : Outcome) (t : State) : Prop := o = .returned (some (.int 1)) ∧ Framed s o t [] 600002 7302232
def lw_Z (below : List Frame) (a : Array Value) (s : State) : State → Prop := fun t => ∃ o, t.status = .running ∧ Ended t below o ∧ lw_Q a s o t
/-- the law's own end, with 1 on the stack, nothing written that was there before, its room as the claim has it -/
theorem lw_ret {p : Program} {l : Launch} {e : Env} {s : State} {m : MethodId} {below : List Frame} {meth : Method} {c : Code} {b : Nat} (hx : p.tables.exec = Jvm.exec) (hb : c.code = code) (hr : meth.sig.returnType = ret) (hlocks : meth.locks = false) {pc : Nat} {H : Heap} {ls : Array Slot} (hdg : decode code pc = .ok (.ireturn, 1)) : W p l e room_1 s m #[Value.ref b] below meth c H [] 600002 7302232 (lw_Z below #[Value.ref b] s) (F0 m pc ls [.int 1]) := by
  intro T hT X
  obtain ⟨fs, hret, hrun, hended, hW, hframe⟩ := X.leave (v := some (.int 1)) (hlocks := hlocks) (fun h => by rw [hr] at h; cases h)
  have hmeth' : T.vm.method? m = some meth := X.method'
  refine ⟨T.setFrames fs, ?_, .returned (some (.int 1)), hrun, hended, rfl, ⟨_, rfl⟩, hW, hframe⟩
  jvm_step X.here [X.here.top, hx, hb, hdg, hmeth', hr, ret, narrow_b1]
  (try refine ⟨rfl, ?_⟩); (try refine ⟨rfl, ?_⟩)
  first | (intro acts; rw [hret _ acts rfl rfl rfl]) | rw [hret _ _ rfl rfl rfl]
  exact Steps.refl _
theorem ps_share : (parseMethodDescriptor y_Law_share.desc).map (fun d => d.parameters.length) = some 4 := by decide +kernel
theorem h7 (L : Nat) (hL : L ≤ 7) (h : ¬ Int32.ofNat L - 7 < 0) : L = 7 := by
  have k : ∀ n : Fin 8, ¬ (Int32.ofNat n.val - 7 < 0) → n.val = 7 := by decide
  exact k ⟨L, by omega⟩ h
theorem hgt (L : Nat) (hL : L ≤ 7) : Int32.ofNat L - 7 < 0 + 7 := by
  have k : ∀ n : Fin 8, Int32.ofNat n.val - 7 < 0 + 7 := by decide
  exact k ⟨L, by omega⟩
set_option maxHeartbeats 8000000 in
set_option maxRecDepth 100000 in
theorem whole_start {p : Program} {e : Env} {s : State} {m : MethodId} {below : List Frame} {meth : Method} {c : Code} (l : Launch) (hst : l.stackTraces = false) {b L : Nat} {xs : Nat → Int32} (hL : L ≤ 7) (C0 : lw_At p s m meth c b L xs) : W p l e room_1 s m #[Value.ref b] below meth c s.heap [] 0 0 (lw_Z below #[Value.ref b] s) (entryFrame m ([Value.ref b] : List Value).toArray 8) := by
  obtain ⟨g, hg1, hK⟩ := law_K C0
  obtain ⟨hx, hb, hr, hml, hown, hts, hX, hbl, hlocks, hgv⟩ := C0
  have E : mm_C g p s m #[Value.ref b] c code "ExpectRowsLaw" := ⟨hx, hb, hown, fun w h => hts w (List.mem_filter.mp h).1, hK⟩
  have hbA : ¬ (fun q : Nat => g.1 ≤ q) b := by show ¬ g.1 ≤ b; rw [hg1]; exact Nat.not_le.mpr hbl
  have hfo : ∀ {N : mm_M} {H : Heap} {locs : List Loc}, mm_S g s N H locs → ∀ q ∈ locs, s.heap.size ≤ q.base := fun h q hq => by
    have k : g.1 ≤ q.base := h.2.2.2.2 q hq
    rw [hg1] at k
    exact k
  obtain ⟨M0, eM0⟩ : ∃ zz : mm_M, zz = fun _ => none := ⟨_, rfl⟩
  have hZ : mm_S g s M0 s.heap [] := ⟨⟨by rw [hg1]; exact Nat.le_refl _, fun a x h => by rw [eM0] at h; cases h⟩, by rw [hg1]; exact Nat.le_refl _, va_S.rf⟩
  have hl := lv_entry ([.ref b]) (n := 8) (Nat.le_of_ble_eq_true rfl)
  rw [lg_entry_eq]
  generalize (lg_sl ([.ref b]) ++ List.replicate (8 - (lg_sl ([.ref b])).length) Slot.unset).toArray = ls at hl ⊢
  have hl : lv_has ls 8 [(0, .ref b)] := hl
  refine mm_new 1 E hZ cl_X w_24 ni_X.1 ni_X.2 fs_X (Nat.le_of_ble_eq_true rfl) (Nat.le_of_ble_eq_true rfl) d_Law_law_0 (fun x H hBx hNx hZ => ?_)
  obtain ⟨M1, eM1⟩ : ∃ zz : mm_M, zz = mm_up M0 x (ob 1 0 [.null, .null, .null, .null, .null, .null, .long 0]) := ⟨_, rfl⟩
  have hZ : mm_S g s M1 H [] := by rw [eM1]; exact hZ
  have h2 := (congrFun eM1 x).trans (mm_self _ _ _)
  refine lv_dup hx hb d_Law_law_3 rfl ?_
  refine mm_callv (mm_runI (As := []) (rest := [.ref x]) E hZ hml hl.1 lk_Law_15 me_X_init in_X_init (c_X_init l g h2 (fun _ => 0) (fun _ => 0) (fun _ => 0) (fun _ _ => 0)) ⟨Nat.le_of_ble_eq_true rfl, Nat.le_of_ble_eq_true rfl⟩ rfl (Nat.le_of_ble_eq_true rfl) d_Law_law_4 ⟨Nat.le_of_ble_eq_true rfl, Nat.le_of_ble_eq_true rfl⟩) hZ (fun Ma H locs hp hZ => ?_)
  obtain ⟨rl, la, lf, yl, da, tl, lt, cn, bA, lA, dl, dA2, sA, ia, fa, hox, hRl, hHl, hTl, hCn, hDl, hIt, _⟩ := hp
  refine lv_astore_n (lv' := [(1, .ref x), (0, .ref b)]) hx hb d_Law_law_7 rfl hl (by decide) rfl (fun ls hl => ?_)
  refine mm_new 20 E hZ cl_Mod w_607 ni_Mod.1 ni_Mod.2 fs_Mod (Nat.le_of_ble_eq_true rfl) (Nat.le_of_ble_eq_true rfl) d_Law_law_8 (fun q H hBq hNq hZ => ?_)
  obtain ⟨M4, eM4⟩ : ∃ zz : mm_M, zz = mm_up Ma q (ob 20 9 [.int 0, .int 0, .null, .null, .null, .null, .null, .null, .null, .null, .null, .null, .null, .null, .null, .null, .int 0, .long 0, .int 0, .null, .null, .null, .null, .null, .int 0, .null]) := ⟨_, rfl⟩
  have hZ : mm_S g s M4 H locs := by rw [eM4]; exact hZ
  have h5 := (congrFun eM4 x).trans ((mm_ne _ _ (mm_apartN hox hNq)).trans hox)
  have h6 := (congrFun eM4 q).trans (mm_self _ _ _)
  refine lv_dup hx hb d_Law_law_11 rfl ?_
  refine mm_callv (mm_runI (As := []) (rest := [.ref q]) E hZ hml hl.1 lk_Law_18 me_Mod_init in_Mod_init (c_Mod_init l g h6) ⟨Nat.le_of_ble_eq_true rfl, Nat.le_of_ble_eq_true rfl⟩ rfl (Nat.le_of_ble_eq_true rfl) d_Law_law_12 ⟨Nat.le_of_ble_eq_true rfl, Nat.le_of_ble_eq_true rfl⟩) hZ (fun Mc H locs hp hZ => ?_)
  obtain ⟨ad, hRq⟩ := hp
  have k1 : ∀ u, u < 20 → mm_same u Ma Mc := fun u hu => mm_same.tr (by rw [eM4]; exact mm_same.new hNq _) (hRq.2 u (Or.inl hu))
  refine lv_astore_n (lv' := [(2, .ref q), (1, .ref x), (0, .ref b)]) hx hb d_Law_law_15 rfl hl (by decide) rfl (fun ls hl => ?_)
  refine lv_iconst (v := 1) hx hb d_Law_law_16 (by decide) ?_
  refine mm_newl 50 (t0 := 1) (cA := g.2.2 1) (N := 1) E hZ rfl w_84 (by decide) (by decide) (by decide) (Nat.le_of_ble_eq_true rfl) (Nat.le_of_ble_eq_true rfl) d_Law_law_17 (fun o3 H hBo hNo hZ => ?_)
  obtain ⟨M, eM⟩ : ∃ zz : mm_M, zz = mm_up Mc o3 (al 50 (g.2.2 1) 1 (fun _ => 0)) := ⟨_, rfl⟩
  have hZ : mm_S g s M H locs := by rw [eM]; exact hZ
  have k2 : ∀ u, mm_same u Mc M := fun u => by rw [eM]; exact mm_same.new hNo _
  have k3 : ∀ u, u < 20 → mm_same u Ma M := fun u hu => (k1 u hu).tr (k2 u)
  have ho3 : M o3 = some (al 50 (g.2.2 1) 1 (fun _ => 0)) := (congrFun eM o3).trans (mm_self _ _ _)
  have hox := k3 1 (by decide) _ _ hox
  have hRl := hRl.kept (fun u hu => k3 u (by rcases hu with rfl | rfl | rfl <;> decide))
  have hHl := hHl.kept (fun u hu => k3 u (by rcases hu with rfl | rfl <;> decide))
  have hTl := hTl.kept (fun u hu => k3 u (by rcases hu with rfl | rfl | rfl <;> decide))
  have hCn := hCn.kept (fun u hu => k3 u (by rcases hu with rfl | rfl | rfl <;> decide))
  have hDl := hDl.kept (fun u hu => k3 u (by rcases hu with rfl | rfl | rfl <;> decide))
  have hIt := hIt.kept (fun u hu => k3 u (by rcases hu with rfl | rfl <;> decide))
  have hR := hRq.1.kept (fun u _ _ => k2 u)
  clear hRq
  refine lv_astore_n (lv' := [(3, .ref o3), (2, .ref q), (1, .ref x), (0, .ref b)]) hx hb d_Law_law_19 rfl hl (by decide) rfl (fun ls hl => ?_)
  refine lv_iconst (v := 0) hx hb d_Law_law_20 (by decide) ?_
  refine lv_istore (lv' := [(4, .int 0), (3, .ref o3), (2, .ref q), (1, .ref x), (0, .ref b)]) hx hb d_Law_law_21 hl (by decide) rfl (fun ls hl => ?_)
  have hfin : ∀ (N : mm_M) (H : Heap) (locs : List Loc) (kc ks : Nat) (ls : Array Slot), L ≤ 7 → mm_S g s N H locs → kc ≤ 600002 → ks ≤ 7302232 → lv_has ls 8 [(0, .ref b), (4, .int 0)] → W p l e room_1 s m #[Value.ref b] below meth c H locs kc ks (lw_Z below #[Value.ref b] s) (F0 m 742 ls []) := by
    intro N H locs kc ks ls hL7 hZ hkc hks hl
    refine lv_iinc (v := 0 + 7) (lv' := [(4, .int (0 + 7)), (0, .ref b)]) hx hb d_Law_law_742 hl (k := 1) rfl rfl (by decide) rfl (fun ls hl => ?_)
    refine lv_goto (tgt := 23) hx hb d_Law_law_745 (by decide) ?_
    refine lv_iload hx hb d_Law_law_23 (lv_at hl 0 rfl) ?_
    refine lv_aload_n hx hb d_Law_law_25 rfl (lv_at hl 1 rfl) ?_
    refine va_slen hx hb hX hbl hbA hZ.2.2 d_Law_law_26 ?_
    refine lv_bipush (v := 7) hx hb d_Law_law_27 (by decide) ?_
    refine lv_isub hx hb d_Law_law_29 ?_
    refine lv_icmp_gt (tgt := 748) hx hb d_Law_law_30 (by decide) (fun c30 => ?_) (fun c30 => ?_)
    · refine lv_iconst (v := 1) hx hb d_Law_law_748 (by decide) ?_
      refine va_forget (hfo hZ) ?_
      refine W.widen (k := 600002) (n := 7302232) hkc hks ?_
      exact lw_ret hx hb hr hlocks d_Law_law_749
    · exact absurd (hgt L hL7) c30
  refine lv_iload hx hb d_Law_law_23 (lv_at hl 0 rfl) ?_
  refine lv_aload_n hx hb d_Law_law_25 rfl (lv_at hl 4 rfl) ?_
  refine va_slen hx hb hX hbl hbA hZ.2.2 d_Law_law_26 ?_
  refine lv_bipush (v := 7) hx hb d_Law_law_27 (by decide) ?_
  refine lv_isub hx hb d_Law_law_29 ?_
  refine lv_icmp_gt (tgt := 748) hx hb d_Law_law_30 (by decide) (fun c30 => ?_) (fun c30 => ?_)
  · refine lv_iconst (v := 1) hx hb d_Law_law_748 (by decide) ?_
    refine va_forget (hfo hZ) ?_
    refine W.widen (k := 600002) (n := 7302232) (Nat.le_of_ble_eq_true rfl) (Nat.le_of_ble_eq_true rfl) ?_
    exact lw_ret hx hb hr hlocks d_Law_law_749
  · have hL7 : L = 7 := h7 L hL c30
    subst hL7
    refine lv_aload_n hx hb d_Law_law_33 rfl (lv_at hl 4 rfl) ?_
    refine lv_iload hx hb d_Law_law_34 (lv_at hl 0 rfl) ?_
    refine va_sld hx hb hX hbl hbA hZ.2.2 (pk_in 0 7 (by decide)) d_Law_law_36 ?_
    refine lv_topi (fun a0 ea0 => ?_)
    refine lv_bipush (v := 15) hx hb d_Law_law_37 (by decide) ?_
    refine lv_iand hx hb d_Law_law_39 ?_
    obtain ⟨op, hop, eop⟩ := pk_andE a0 (m := 15) 4 rfl
    rw [eop]
    rcases (show op = 0 ∨ op = 1 ∨ op = 2 ∨ op = 3 ∨ op = 4 ∨ op = 5 ∨ op = 6 ∨ op = 7 ∨ op = 8 ∨ op = 9 ∨ op = 10 ∨ 10 < op by omega) with rfl | rfl | rfl | rfl | rfl | rfl | rfl | rfl | rfl | rfl | rfl | hop10
    · refine lv_tableIn (off := 60) (tgt := 100) hx hb d_Law_law_40 (by decide) (by decide) (by decide) (by decide) ?_
      refine lv_aload_n hx hb d_Law_law_100 rfl (lv_at hl 3 rfl) ?_
      refine lv_aload_n hx hb d_Law_law_101 rfl (lv_at hl 4 rfl) ?_
      refine lv_iload hx hb d_Law_law_102 (lv_at hl 0 rfl) ?_
      refine lv_iconst (v := 1) hx hb d_Law_law_104 (by decide) ?_
      refine lv_iadd hx hb d_Law_law_105 ?_
      refine va_sld hx hb hX hbl hbA hZ.2.2 (pk_in 1 7 (by decide)) d_Law_law_106 ?_
      refine lv_topi (fun a1 ea1 => ?_)
      refine lv_aload_n hx hb d_Law_law_107 rfl (lv_at hl 4 rfl) ?_
      refine lv_iload hx hb d_Law_law_108 (lv_at hl 0 rfl) ?_
      refine lv_iconst (v := 2) hx hb d_Law_law_110 (by decide) ?_
      refine lv_iadd hx hb d_Law_law_111 ?_
      refine va_sld hx hb hX hbl hbA hZ.2.2 (pk_in 2 7 (by decide)) d_Law_law_112 ?_
      refine lv_topi (fun a2 ea2 => ?_)
      refine lv_aload_n hx hb d_Law_law_113 rfl (lv_at hl 4 rfl) ?_
      refine lv_iload hx hb d_Law_law_114 (lv_at hl 0 rfl) ?_
      refine lv_iconst (v := 3) hx hb d_Law_law_116 (by decide) ?_
      refine lv_iadd hx hb d_Law_law_117 ?_
      refine va_sld hx hb hX hbl hbA hZ.2.2 (pk_in 3 7 (by decide)) d_Law_law_118 ?_
      refine lv_topi (fun a3 ea3 => ?_)
      refine lv_aload_n hx hb d_Law_law_119 rfl (lv_at hl 4 rfl) ?_
      refine lv_iload hx hb d_Law_law_120 (lv_at hl 0 rfl) ?_
      refine lv_iconst (v := 4) hx hb d_Law_law_122 (by decide) ?_
      refine lv_iadd hx hb d_Law_law_123 ?_
      refine va_sld hx hb hX hbl hbA hZ.2.2 (pk_in 4 7 (by decide)) d_Law_law_124 ?_
      refine lv_topi (fun a4 ea4 => ?_)
      refine lv_i2l hx hb d_Law_law_125 rfl ?_
      refine lv_bipush (v := 32) hx hb d_Law_law_126 (by decide) ?_
      refine lv_lshl hx hb d_Law_law_128 rfl ?_
      refine lv_aload_n hx hb d_Law_law_129 rfl (lv_at hl 4 rfl) ?_
      refine lv_iload hx hb d_Law_law_130 (lv_at hl 0 rfl) ?_
      refine lv_iconst (v := 5) hx hb d_Law_law_132 (by decide) ?_
      refine lv_iadd hx hb d_Law_law_133 ?_
      refine va_sld hx hb hX hbl hbA hZ.2.2 (pk_in 5 7 (by decide)) d_Law_law_134 ?_
      refine lv_topi (fun a5 ea5 => ?_)
      refine lv_i2l hx hb d_Law_law_135 rfl ?_
      refine lv_ldc2 (v := 4294967295) hx hb E.2.2.1 (E.2.2.2.1 _ w_788) d_Law_law_136 ?_
      refine lv_land hx hb d_Law_law_139 ?_
      refine lv_lor hx hb d_Law_law_140 ?_
      refine lv_topl (fun w0 ew0 => ?_)
      refine lv_aload_n hx hb d_Law_law_141 rfl (lv_at hl 4 rfl) ?_
      refine lv_iload hx hb d_Law_law_142 (lv_at hl 0 rfl) ?_
      refine lv_bipush (v := 6) hx hb d_Law_law_144 (by decide) ?_
      refine lv_iadd hx hb d_Law_law_146 ?_
      refine va_sld hx hb hX hbl hbA hZ.2.2 (pk_in 6 7 (by decide)) d_Law_law_147 ?_
      refine lv_topi (fun a6 ea6 => ?_)
      refine lv_if_eq (tgt := 155) hx hb d_Law_law_148 (by decide) (fun c148 => ?_) (fun c148 => ?_)
      · refine lv_iconst (v := 0) hx hb d_Law_law_155 (by decide) ?_
        refine mm_calli (mm_runV (As := [.int a1, .int a2, .int a3, .long w0, .int 0]) (rest := []) E hZ hml hl.1 lk_Law_21 me_X_rule in_X_rule (c_X_rule l g hox hRl (by decide) (fun i hi => absurd hi (Nat.not_lt_zero i)) a1 a2 a3 w0 bo_0) hox cl_X.1 ⟨Nat.le_of_ble_eq_true rfl, Nat.le_of_ble_eq_true rfl⟩ rfl (Nat.le_of_ble_eq_true rfl) d_Law_law_156 ⟨Nat.le_of_ble_eq_true rfl, Nat.le_of_ble_eq_true rfl⟩) hZ (fun r1 Mx H locs hp hZ => ?_)
        have hp1 := hp
        clear hp
        have hk : ∀ u, 19 ≤ u → mm_same u M Mx := by
          rcases hp1 with ⟨_, _, rfl⟩ | ⟨_, (⟨_, _, rfl⟩ | ⟨_, _, _, _, _, _, hs⟩)⟩
          · exact fun u _ => mm_same.rf
          · exact fun u _ => mm_same.rf
          · exact fun u hu => hs u (by omega)
        have hR2 := hR.kept (M' := Mx) (fun u h1 h2 => hk u (by omega))
        refine lv_aload_n hx hb d_Law_law_159 rfl (lv_at hl 2 rfl) ?_
        refine lv_aload_n hx hb d_Law_law_160 rfl (lv_at hl 4 rfl) ?_
        refine lv_iload hx hb d_Law_law_161 (lv_at hl 0 rfl) ?_
        refine lv_iconst (v := 1) hx hb d_Law_law_163 (by decide) ?_
        refine lv_iadd hx hb d_Law_law_164 ?_
        refine va_sld hx hb hX hbl hbA hZ.2.2 (pk_in 1 7 (by decide)) d_Law_law_165 ?_
        rw [← ea1]
        refine lv_aload_n hx hb d_Law_law_166 rfl (lv_at hl 4 rfl) ?_
        refine lv_iload hx hb d_Law_law_167 (lv_at hl 0 rfl) ?_
        refine lv_iconst (v := 2) hx hb d_Law_law_169 (by decide) ?_
        refine lv_iadd hx hb d_Law_law_170 ?_
        refine va_sld hx hb hX hbl hbA hZ.2.2 (pk_in 2 7 (by decide)) d_Law_law_171 ?_
        rw [← ea2]
        refine lv_aload_n hx hb d_Law_law_172 rfl (lv_at hl 4 rfl) ?_
        refine lv_iload hx hb d_Law_law_173 (lv_at hl 0 rfl) ?_
        refine lv_iconst (v := 3) hx hb d_Law_law_175 (by decide) ?_
        refine lv_iadd hx hb d_Law_law_176 ?_
        refine va_sld hx hb hX hbl hbA hZ.2.2 (pk_in 3 7 (by decide)) d_Law_law_177 ?_
        rw [← ea3]
        refine lv_aload_n hx hb d_Law_law_178 rfl (lv_at hl 4 rfl) ?_
        refine lv_iload hx hb d_Law_law_179 (lv_at hl 0 rfl) ?_
        refine lv_iconst (v := 4) hx hb d_Law_law_181 (by decide) ?_
        refine lv_iadd hx hb d_Law_law_182 ?_
        refine va_sld hx hb hX hbl hbA hZ.2.2 (pk_in 4 7 (by decide)) d_Law_law_183 ?_
        rw [← ea4]
        refine lv_i2l hx hb d_Law_law_184 rfl ?_
        refine lv_bipush (v := 32) hx hb d_Law_law_185 (by decide) ?_
        refine lv_lshl hx hb d_Law_law_187 rfl ?_
        refine lv_aload_n hx hb d_Law_law_188 rfl (lv_at hl 4 rfl) ?_
        refine lv_iload hx hb d_Law_law_189 (lv_at hl 0 rfl) ?_
        refine lv_iconst (v := 5) hx hb d_Law_law_191 (by decide) ?_
        refine lv_iadd hx hb d_Law_law_192 ?_
        refine va_sld hx hb hX hbl hbA hZ.2.2 (pk_in 5 7 (by decide)) d_Law_law_193 ?_
        rw [← ea5]
        refine lv_i2l hx hb d_Law_law_194 rfl ?_
        refine lv_ldc2 (v := 4294967295) hx hb E.2.2.1 (E.2.2.2.1 _ w_788) d_Law_law_195 ?_
        refine lv_land hx hb d_Law_law_198 ?_
        refine lv_lor hx hb d_Law_law_199 ?_
        rw [← ew0]
        refine lv_aload_n hx hb d_Law_law_200 rfl (lv_at hl 4 rfl) ?_
        refine lv_iload hx hb d_Law_law_201 (lv_at hl 0 rfl) ?_
        refine lv_bipush (v := 6) hx hb d_Law_law_203 (by decide) ?_
        refine lv_iadd hx hb d_Law_law_205 ?_
        refine va_sld hx hb hX hbl hbA hZ.2.2 (pk_in 6 7 (by decide)) d_Law_law_206 ?_
        rw [← ea6]
        refine lv_if_eq (tgt := 214) hx hb d_Law_law_207 (by decide) (fun c207 => ?_) (fun c207 => ?_)
        · refine lv_iconst (v := 0) hx hb d_Law_law_214 (by decide) ?_
          refine mm_calli (mm_runV (As := [.int a1, .int a2, .int a3, .long w0, .int 0]) (rest := [.int r1]) E hZ hml hl.1 lk_Law_25 me_Mod_rule in_Mod_rule (c_Mod_rule l g hR2 a1 a2 a3 w0 bo_0 (n := 0) rfl (by decide)) hR2.1 cl_Mod.1 ⟨Nat.le_of_ble_eq_true rfl, Nat.le_of_ble_eq_true rfl⟩ rfl (Nat.le_of_ble_eq_true rfl) d_Law_law_215 ⟨Nat.le_of_ble_eq_true rfl, Nat.le_of_ble_eq_true rfl⟩) hZ (fun r2 My H locs hp hZ => ?_)
          have heq := n_rule hp1 hp
          refine lv_icmp_eq (tgt := 742) hx hb d_Law_law_218 (by decide) (fun c218 => ?_) (fun c218 => ?_)
          · exact hfin My H locs _ _ ls (Nat.le_refl _) hZ (Nat.le_of_ble_eq_true rfl) (Nat.le_of_ble_eq_true rfl) (lv_sub hl [4, 0] rfl)
          · exact absurd heq c218
        · exact absurd c148 c207
      · refine lv_iconst (v := 1) hx hb d_Law_law_151 (by decide) ?_
        refine lv_goto (tgt := 156) hx hb d_Law_law_152 (by decide) ?_
        refine mm_calli (mm_runV (As := [.int a1, .int a2, .int a3, .long w0, .int 1]) (rest := []) E hZ hml hl.1 lk_Law_21 me_X_rule in_X_rule (c_X_rule l g hox hRl (by decide) (fun i hi => absurd hi (Nat.not_lt_zero i)) a1 a2 a3 w0 bo_1) hox cl_X.1 ⟨Nat.le_of_ble_eq_true rfl, Nat.le_of_ble_eq_true rfl⟩ rfl (Nat.le_of_ble_eq_true rfl) d_Law_law_156 ⟨Nat.le_of_ble_eq_true rfl, Nat.le_of_ble_eq_true rfl⟩) hZ (fun r1 Mx H locs hp hZ => ?_)
        have hp1 := hp
        clear hp
        have hk : ∀ u, 19 ≤ u → mm_same u M Mx := by
          rcases hp1 with ⟨_, _, rfl⟩ | ⟨_, (⟨_, _, rfl⟩ | ⟨_, _, _, _, _, _, hs⟩)⟩
          · exact fun u _ => mm_same.rf
          · exact fun u _ => mm_same.rf
          · exact fun u hu => hs u (by omega)
        have hR2 := hR.kept (M' := Mx) (fun u h1 h2 => hk u (by omega))
        refine lv_aload_n hx hb d_Law_law_159 rfl (lv_at hl 2 rfl) ?_
        refine lv_aload_n hx hb d_Law_law_160 rfl (lv_at hl 4 rfl) ?_
        refine lv_iload hx hb d_Law_law_161 (lv_at hl 0 rfl) ?_
        refine lv_iconst (v := 1) hx hb d_Law_law_163 (by decide) ?_
        refine lv_iadd hx hb d_Law_law_164 ?_
        refine va_sld hx hb hX hbl hbA hZ.2.2 (pk_in 1 7 (by decide)) d_Law_law_165 ?_
        rw [← ea1]
        refine lv_aload_n hx hb d_Law_law_166 rfl (lv_at hl 4 rfl) ?_
        refine lv_iload hx hb d_Law_law_167 (lv_at hl 0 rfl) ?_
        refine lv_iconst (v := 2) hx hb d_Law_law_169 (by decide) ?_
        refine lv_iadd hx hb d_Law_law_170 ?_
        refine va_sld hx hb hX hbl hbA hZ.2.2 (pk_in 2 7 (by decide)) d_Law_law_171 ?_
        rw [← ea2]
        refine lv_aload_n hx hb d_Law_law_172 rfl (lv_at hl 4 rfl) ?_
        refine lv_iload hx hb d_Law_law_173 (lv_at hl 0 rfl) ?_
        refine lv_iconst (v := 3) hx hb d_Law_law_175 (by decide) ?_
        refine lv_iadd hx hb d_Law_law_176 ?_
        refine va_sld hx hb hX hbl hbA hZ.2.2 (pk_in 3 7 (by decide)) d_Law_law_177 ?_
        rw [← ea3]
        refine lv_aload_n hx hb d_Law_law_178 rfl (lv_at hl 4 rfl) ?_
        refine lv_iload hx hb d_Law_law_179 (lv_at hl 0 rfl) ?_
        refine lv_iconst (v := 4) hx hb d_Law_law_181 (by decide) ?_
        refine lv_iadd hx hb d_Law_law_182 ?_
        refine va_sld hx hb hX hbl hbA hZ.2.2 (pk_in 4 7 (by decide)) d_Law_law_183 ?_
        rw [← ea4]
        refine lv_i2l hx hb d_Law_law_184 rfl ?_
        refine lv_bipush (v := 32) hx hb d_Law_law_185 (by decide) ?_
        refine lv_lshl hx hb d_Law_law_187 rfl ?_
        refine lv_aload_n hx hb d_Law_law_188 rfl (lv_at hl 4 rfl) ?_
        refine lv_iload hx hb d_Law_law_189 (lv_at hl 0 rfl) ?_
        refine lv_iconst (v := 5) hx hb d_Law_law_191 (by decide) ?_
        refine lv_iadd hx hb d_Law_law_192 ?_
        refine va_sld hx hb hX hbl hbA hZ.2.2 (pk_in 5 7 (by decide)) d_Law_law_193 ?_
        rw [← ea5]
        refine lv_i2l hx hb d_Law_law_194 rfl ?_
        refine lv_ldc2 (v := 4294967295) hx hb E.2.2.1 (E.2.2.2.1 _ w_788) d_Law_law_195 ?_
        refine lv_land hx hb d_Law_law_198 ?_
        refine lv_lor hx hb d_Law_law_199 ?_
        rw [← ew0]
        refine lv_aload_n hx hb d_Law_law_200 rfl (lv_at hl 4 rfl) ?_
        refine lv_iload hx hb d_Law_law_201 (lv_at hl 0 rfl) ?_
        refine lv_bipush (v := 6) hx hb d_Law_law_203 (by decide) ?_
        refine lv_iadd hx hb d_Law_law_205 ?_
        refine va_sld hx hb hX hbl hbA hZ.2.2 (pk_in 6 7 (by decide)) d_Law_law_206 ?_
        rw [← ea6]
        refine lv_if_eq (tgt := 214) hx hb d_Law_law_207 (by decide) (fun c207 => ?_) (fun c207 => ?_)
        · exact absurd c207 c148
        · refine lv_iconst (v := 1) hx hb d_Law_law_210 (by decide) ?_
          refine lv_goto (tgt := 215) hx hb d_Law_law_211 (by decide) ?_
          refine mm_calli (mm_runV (As := [.int a1, .int a2, .int a3, .long w0, .int 1]) (rest := [.int r1]) E hZ hml hl.1 lk_Law_25 me_Mod_rule in_Mod_rule (c_Mod_rule l g hR2 a1 a2 a3 w0 bo_1 (n := 0) rfl (by decide)) hR2.1 cl_Mod.1 ⟨Nat.le_of_ble_eq_true rfl, Nat.le_of_ble_eq_true rfl⟩ rfl (Nat.le_of_ble_eq_true rfl) d_Law_law_215 ⟨Nat.le_of_ble_eq_true rfl, Nat.le_of_ble_eq_true rfl⟩) hZ (fun r2 My H locs hp hZ => ?_)
          have heq := n_rule hp1 hp
          refine lv_icmp_eq (tgt := 742) hx hb d_Law_law_218 (by decide) (fun c218 => ?_) (fun c218 => ?_)
          · exact hfin My H locs _ _ ls (Nat.le_refl _) hZ (Nat.le_of_ble_eq_true rfl) (Nat.le_of_ble_eq_true rfl) (lv_sub hl [4, 0] rfl)
          · exact absurd heq c218
    · refine lv_tableIn (off := 183) (tgt := 223) hx hb d_Law_law_40 (by decide) (by decide) (by decide) (by decide) ?_
      refine lv_aload_n hx hb d_Law_law_223 rfl (lv_at hl 3 rfl) ?_
      refine lv_aload_n hx hb d_Law_law_224 rfl (lv_at hl 4 rfl) ?_
      refine lv_iload hx hb d_Law_law_225 (lv_at hl 0 rfl) ?_
      refine lv_iconst (v := 1) hx hb d_Law_law_227 (by decide) ?_
      refine lv_iadd hx hb d_Law_law_228 ?_
      refine va_sld hx hb hX hbl hbA hZ.2.2 (pk_in 1 7 (by decide)) d_Law_law_229 ?_
      refine lv_topi (fun a1 ea1 => ?_)
      refine lv_aload_n hx hb d_Law_law_230 rfl (lv_at hl 4 rfl) ?_
      refine lv_iload hx hb d_Law_law_231 (lv_at hl 0 rfl) ?_
      refine lv_iconst (v := 2) hx hb d_Law_law_233 (by decide) ?_
      refine lv_iadd hx hb d_Law_law_234 ?_
      refine va_sld hx hb hX hbl hbA hZ.2.2 (pk_in 2 7 (by decide)) d_Law_law_235 ?_
      refine lv_topi (fun a2 ea2 => ?_)
      refine lv_aload_n hx hb d_Law_law_236 rfl (lv_at hl 4 rfl) ?_
      refine lv_iload hx hb d_Law_law_237 (lv_at hl 0 rfl) ?_
      refine lv_iconst (v := 3) hx hb d_Law_law_239 (by decide) ?_
      refine lv_iadd hx hb d_Law_law_240 ?_
      refine va_sld hx hb hX hbl hbA hZ.2.2 (pk_in 3 7 (by decide)) d_Law_law_241 ?_
      refine lv_topi (fun a3 ea3 => ?_)
      refine lv_aload_n hx hb d_Law_law_242 rfl (lv_at hl 4 rfl) ?_
      refine lv_iload hx hb d_Law_law_243 (lv_at hl 0 rfl) ?_
      refine lv_iconst (v := 4) hx hb d_Law_law_245 (by decide) ?_
      refine lv_iadd hx hb d_Law_law_246 ?_
      refine va_sld hx hb hX hbl hbA hZ.2.2 (pk_in 4 7 (by decide)) d_Law_law_247 ?_
      refine lv_topi (fun a4 ea4 => ?_)
      refine lv_aload_n hx hb d_Law_law_248 rfl (lv_at hl 4 rfl) ?_
      refine lv_iload hx hb d_Law_law_249 (lv_at hl 0 rfl) ?_
      refine lv_iconst (v := 5) hx hb d_Law_law_251 (by decide) ?_
      refine lv_iadd hx hb d_Law_law_252 ?_
      refine va_sld hx hb hX hbl hbA hZ.2.2 (pk_in 5 7 (by decide)) d_Law_law_253 ?_
      refine lv_topi (fun a5 ea5 => ?_)
      refine lv_i2l hx hb d_Law_law_254 rfl ?_
      refine lv_bipush (v := 32) hx hb d_Law_law_255 (by decide) ?_
      refine lv_lshl hx hb d_Law_law_257 rfl ?_
      refine lv_aload_n hx hb d_Law_law_258 rfl (lv_at hl 4 rfl) ?_
      refine lv_iload hx hb d_Law_law_259 (lv_at hl 0 rfl) ?_
      refine lv_bipush (v := 6) hx hb d_Law_law_261 (by decide) ?_
      refine lv_iadd hx hb d_Law_law_263 ?_
      refine va_sld hx hb hX hbl hbA hZ.2.2 (pk_in 6 7 (by decide)) d_Law_law_264 ?_
      refine lv_topi (fun a6 ea6 => ?_)
      refine lv_i2l hx hb d_Law_law_265 rfl ?_
      refine lv_ldc2 (v := 4294967295) hx hb E.2.2.1 (E.2.2.2.1 _ w_788) d_Law_law_266 ?_
      refine lv_land hx hb d_Law_law_269 ?_
      refine lv_lor hx hb d_Law_law_270 ?_
      refine lv_topl (fun w0 ew0 => ?_)
      refine mm_calli (mm_runV (As := [.int a1, .int a2, .int a3, .int a4, .long w0]) (rest := []) E hZ hml hl.1 lk_Law_26 me_X_event in_X_event (c_X_event0 l g hox hIt hRl hDl (by decide) a1 a2 a3 a4 w0) hox cl_X.1 ⟨Nat.le_of_ble_eq_true rfl, Nat.le_of_ble_eq_true rfl⟩ rfl (Nat.le_of_ble_eq_true rfl) d_Law_law_271 ⟨Nat.le_of_ble_eq_true rfl, Nat.le_of_ble_eq_true rfl⟩) hZ (fun r1 Mx H locs hp hZ => ?_)
      have hp1 := hp
      clear hp
      have hk : ∀ u, 19 ≤ u → mm_same u M Mx := by
        rcases hp1 with ⟨_, _, hs⟩ | ⟨_, _, _, _, _, _, (⟨_, _, hs⟩ | ⟨_, _, hs⟩)⟩ <;> exact hs
      have hR2 := hR.kept (M' := Mx) (fun u h1 h2 => hk u (by omega))
      refine lv_aload_n hx hb d_Law_law_274 rfl (lv_at hl 2 rfl) ?_
      refine lv_aload_n hx hb d_Law_law_275 rfl (lv_at hl 4 rfl) ?_
      refine lv_iload hx hb d_Law_law_276 (lv_at hl 0 rfl) ?_
      refine lv_iconst (v := 1) hx hb d_Law_law_278 (by decide) ?_
      refine lv_iadd hx hb d_Law_law_279 ?_
      refine va_sld hx hb hX hbl hbA hZ.2.2 (pk_in 1 7 (by decide)) d_Law_law_280 ?_
      rw [← ea1]
      refine lv_aload_n hx hb d_Law_law_281 rfl (lv_at hl 4 rfl) ?_
      refine lv_iload hx hb d_Law_law_282 (lv_at hl 0 rfl) ?_
      refine lv_iconst (v := 2) hx hb d_Law_law_284 (by decide) ?_
      refine lv_iadd hx hb d_Law_law_285 ?_
      refine va_sld hx hb hX hbl hbA hZ.2.2 (pk_in 2 7 (by decide)) d_Law_law_286 ?_
      rw [← ea2]
      refine lv_aload_n hx hb d_Law_law_287 rfl (lv_at hl 4 rfl) ?_
      refine lv_iload hx hb d_Law_law_288 (lv_at hl 0 rfl) ?_
      refine lv_iconst (v := 3) hx hb d_Law_law_290 (by decide) ?_
      refine lv_iadd hx hb d_Law_law_291 ?_
      refine va_sld hx hb hX hbl hbA hZ.2.2 (pk_in 3 7 (by decide)) d_Law_law_292 ?_
      rw [← ea3]
      refine lv_aload_n hx hb d_Law_law_293 rfl (lv_at hl 4 rfl) ?_
      refine lv_iload hx hb d_Law_law_294 (lv_at hl 0 rfl) ?_
      refine lv_iconst (v := 4) hx hb d_Law_law_296 (by decide) ?_
      refine lv_iadd hx hb d_Law_law_297 ?_
      refine va_sld hx hb hX hbl hbA hZ.2.2 (pk_in 4 7 (by decide)) d_Law_law_298 ?_
      rw [← ea4]
      refine lv_aload_n hx hb d_Law_law_299 rfl (lv_at hl 4 rfl) ?_
      refine lv_iload hx hb d_Law_law_300 (lv_at hl 0 rfl) ?_
      refine lv_iconst (v := 5) hx hb d_Law_law_302 (by decide) ?_
      refine lv_iadd hx hb d_Law_law_303 ?_
      refine va_sld hx hb hX hbl hbA hZ.2.2 (pk_in 5 7 (by decide)) d_Law_law_304 ?_
      rw [← ea5]
      refine lv_i2l hx hb d_Law_law_305 rfl ?_
      refine lv_bipush (v := 32) hx hb d_Law_law_306 (by decide) ?_
      refine lv_lshl hx hb d_Law_law_308 rfl ?_
      refine lv_aload_n hx hb d_Law_law_309 rfl (lv_at hl 4 rfl) ?_
      refine lv_iload hx hb d_Law_law_310 (lv_at hl 0 rfl) ?_
      refine lv_bipush (v := 6) hx hb d_Law_law_312 (by decide) ?_
      refine lv_iadd hx hb d_Law_law_314 ?_
      refine va_sld hx hb hX hbl hbA hZ.2.2 (pk_in 6 7 (by decide)) d_Law_law_315 ?_
      rw [← ea6]
      refine lv_i2l hx hb d_Law_law_316 rfl ?_
      refine lv_ldc2 (v := 4294967295) hx hb E.2.2.1 (E.2.2.2.1 _ w_788) d_Law_law_317 ?_
      refine lv_land hx hb d_Law_law_320 ?_
      refine lv_lor hx hb d_Law_law_321 ?_
      rw [← ew0]
      refine mm_calli (mm_runV (As := [.int a1, .int a2, .int a3, .int a4, .long w0]) (rest := [.int r1]) E hZ hml hl.1 lk_Law_30 me_Mod_event in_Mod_event (c_Mod_event l g hR2 a1 a2 a3 a4 w0 (nr := 0) (f := 0) (cn := fun _ => 0) (bg := fun _ => 0) (wi := fun _ => 0) rfl (by decide) rfl (by decide) (fun k h1 h2 => absurd h2 (by omega)) (fun v _ => ⟨rzo (by decide) v, by decide⟩) (fun p _ => ⟨rzo (by decide) p, by decide⟩) (fun k h1 h2 => absurd h2 (by omega)) (fun j _ _ => Int64.le_refl 0)) hR2.1 cl_Mod.1 ⟨Nat.le_of_ble_eq_true rfl, Nat.le_of_ble_eq_true rfl⟩ rfl (Nat.le_of_ble_eq_true rfl) d_Law_law_322 ⟨Nat.le_of_ble_eq_true rfl, Nat.le_of_ble_eq_true rfl⟩) hZ (fun r2 My H locs hp hZ => ?_)
      have heq := n_event hp1 hp
      refine lv_icmp_eq (tgt := 742) hx hb d_Law_law_325 (by decide) (fun c325 => ?_) (fun c325 => ?_)
      · exact hfin My H locs _ _ ls (Nat.le_refl _) hZ (Nat.le_of_ble_eq_true rfl) (Nat.le_of_ble_eq_true rfl) (lv_sub hl [4, 0] rfl)
      · exact absurd heq c325
    · refine lv_tableIn (off := 290) (tgt := 330) hx hb d_Law_law_40 (by decide) (by decide) (by decide) (by decide) ?_
      refine lv_aload_n hx hb d_Law_law_330 rfl (lv_at hl 3 rfl) ?_
      refine lv_aload_n hx hb d_Law_law_331 rfl (lv_at hl 4 rfl) ?_
      refine lv_iload hx hb d_Law_law_332 (lv_at hl 0 rfl) ?_
      refine lv_iconst (v := 1) hx hb d_Law_law_334 (by decide) ?_
      refine lv_iadd hx hb d_Law_law_335 ?_
      refine va_sld hx hb hX hbl hbA hZ.2.2 (pk_in 1 7 (by decide)) d_Law_law_336 ?_
      refine lv_topi (fun a1 ea1 => ?_)
      refine lv_i2l hx hb d_Law_law_337 rfl ?_
      refine lv_bipush (v := 32) hx hb d_Law_law_338 (by decide) ?_
      refine lv_lshl hx hb d_Law_law_340 rfl ?_
      refine lv_aload_n hx hb d_Law_law_341 rfl (lv_at hl 4 rfl) ?_
      refine lv_iload hx hb d_Law_law_342 (lv_at hl 0 rfl) ?_
      refine lv_iconst (v := 2) hx hb d_Law_law_344 (by decide) ?_
      refine lv_iadd hx hb d_Law_law_345 ?_
      refine va_sld hx hb hX hbl hbA hZ.2.2 (pk_in 2 7 (by decide)) d_Law_law_346 ?_
      refine lv_topi (fun a2 ea2 => ?_)
      refine lv_i2l hx hb d_Law_law_347 rfl ?_
      refine lv_ldc2 (v := 4294967295) hx hb E.2.2.1 (E.2.2.2.1 _ w_788) d_Law_law_348 ?_
      refine lv_land hx hb d_Law_law_351 ?_
      refine lv_lor hx hb d_Law_law_352 ?_
      refine lv_topl (fun w0 ew0 => ?_)
      refine mm_calli (mm_runV (As := [.long w0]) (rest := []) E hZ hml hl.1 lk_Law_31 me_X_tick in_X_tick (c_X_tick0 l g hox hIt (fun k _ => rfl) hTl w0) hox cl_X.1 ⟨Nat.le_of_ble_eq_true rfl, Nat.le_of_ble_eq_true rfl⟩ rfl (Nat.le_of_ble_eq_true rfl) d_Law_law_353 ⟨Nat.le_of_ble_eq_true rfl, Nat.le_of_ble_eq_true rfl⟩) hZ (fun r1 Mx H locs hp hZ => ?_)
      have hp1 := hp
      clear hp
      have hk : ∀ u, 19 ≤ u → mm_same u M Mx := by
        rcases hp1 with ⟨_, _, rfl⟩ | ⟨_, _, h⟩
        · exact fun u _ => mm_same.rf
        · exact fun u hu => by rw [h]; exact mm_same.up hox (by omega) _
      have hR2 := hR.kept (M' := Mx) (fun u h1 h2 => hk u (by omega))
      refine lv_aload_n hx hb d_Law_law_356 rfl (lv_at hl 2 rfl) ?_
      refine lv_aload_n hx hb d_Law_law_357 rfl (lv_at hl 4 rfl) ?_
      refine lv_iload hx hb d_Law_law_358 (lv_at hl 0 rfl) ?_
      refine lv_iconst (v := 1) hx hb d_Law_law_360 (by decide) ?_
      refine lv_iadd hx hb d_Law_law_361 ?_
      refine va_sld hx hb hX hbl hbA hZ.2.2 (pk_in 1 7 (by decide)) d_Law_law_362 ?_
      rw [← ea1]
      refine lv_i2l hx hb d_Law_law_363 rfl ?_
      refine lv_bipush (v := 32) hx hb d_Law_law_364 (by decide) ?_
      refine lv_lshl hx hb d_Law_law_366 rfl ?_
      refine lv_aload_n hx hb d_Law_law_367 rfl (lv_at hl 4 rfl) ?_
      refine lv_iload hx hb d_Law_law_368 (lv_at hl 0 rfl) ?_
      refine lv_iconst (v := 2) hx hb d_Law_law_370 (by decide) ?_
      refine lv_iadd hx hb d_Law_law_371 ?_
      refine va_sld hx hb hX hbl hbA hZ.2.2 (pk_in 2 7 (by decide)) d_Law_law_372 ?_
      rw [← ea2]
      refine lv_i2l hx hb d_Law_law_373 rfl ?_
      refine lv_ldc2 (v := 4294967295) hx hb E.2.2.1 (E.2.2.2.1 _ w_788) d_Law_law_374 ?_
      refine lv_land hx hb d_Law_law_377 ?_
      refine lv_lor hx hb d_Law_law_378 ?_
      rw [← ew0]
      refine mm_calli (mm_runV (As := [.long w0]) (rest := [.int r1]) E hZ hml hl.1 lk_Law_35 me_Mod_tick in_Mod_tick (c_Mod_tick l g hR2 w0 (n0 := 0) rfl (by decide) (fun i _ h => absurd h (by rw [rzo (by decide)]; decide))) hR2.1 cl_Mod.1 ⟨Nat.le_of_ble_eq_true rfl, Nat.le_of_ble_eq_true rfl⟩ rfl (Nat.le_of_ble_eq_true rfl) d_Law_law_379 ⟨Nat.le_of_ble_eq_true rfl, Nat.le_of_ble_eq_true rfl⟩) hZ (fun r2 My H locs hp hZ => ?_)
      have heq := n_tick hp1 hp
      refine lv_icmp_eq (tgt := 742) hx hb d_Law_law_382 (by decide) (fun c382 => ?_) (fun c382 => ?_)
      · exact hfin My H locs _ _ ls (Nat.le_refl _) hZ (Nat.le_of_ble_eq_true rfl) (Nat.le_of_ble_eq_true rfl) (lv_sub hl [4, 0] rfl)
      · exact absurd heq c382
    · refine lv_tableIn (off := 347) (tgt := 387) hx hb d_Law_law_40 (by decide) (by decide) (by decide) (by decide) ?_
      refine lv_aload_n hx hb d_Law_law_387 rfl (lv_at hl 3 rfl) ?_
      refine lv_aload_n hx hb d_Law_law_388 rfl (lv_at hl 4 rfl) ?_
      refine lv_iload hx hb d_Law_law_389 (lv_at hl 0 rfl) ?_
      refine lv_iconst (v := 1) hx hb d_Law_law_391 (by decide) ?_
      refine lv_iadd hx hb d_Law_law_392 ?_
      refine va_sld hx hb hX hbl hbA hZ.2.2 (pk_in 1 7 (by decide)) d_Law_law_393 ?_
      refine lv_topi (fun a1 ea1 => ?_)
      refine lv_aload_n hx hb d_Law_law_394 rfl (lv_at hl 4 rfl) ?_
      refine lv_iload hx hb d_Law_law_395 (lv_at hl 0 rfl) ?_
      refine lv_iconst (v := 2) hx hb d_Law_law_397 (by decide) ?_
      refine lv_iadd hx hb d_Law_law_398 ?_
      refine va_sld hx hb hX hbl hbA hZ.2.2 (pk_in 2 7 (by decide)) d_Law_law_399 ?_
      refine lv_topi (fun a2 ea2 => ?_)
      refine mm_calli (mm_runV (As := [.int a1, .int a2]) (rest := []) E hZ hml hl.1 lk_Law_36 me_X_alarm in_X_alarm (c_X_alarm l g hox hTl a1 a2) hox cl_X.1 ⟨Nat.le_of_ble_eq_true rfl, Nat.le_of_ble_eq_true rfl⟩ rfl (Nat.le_of_ble_eq_true rfl) d_Law_law_400 ⟨Nat.le_of_ble_eq_true rfl, Nat.le_of_ble_eq_true rfl⟩) hZ (fun r1 Mx H locs hp hZ => ?_)
      have hp1 := hp
      clear hp
      have hk : ∀ u, 19 ≤ u → mm_same u M Mx := by
        obtain ⟨rfl, _⟩ := hp1; exact fun u _ => mm_same.rf
      have hR2 := hR.kept (M' := Mx) (fun u h1 h2 => hk u (by omega))
      refine lv_aload_n hx hb d_Law_law_403 rfl (lv_at hl 2 rfl) ?_
      refine lv_aload_n hx hb d_Law_law_404 rfl (lv_at hl 4 rfl) ?_
      refine lv_iload hx hb d_Law_law_405 (lv_at hl 0 rfl) ?_
      refine lv_iconst (v := 1) hx hb d_Law_law_407 (by decide) ?_
      refine lv_iadd hx hb d_Law_law_408 ?_
      refine va_sld hx hb hX hbl hbA hZ.2.2 (pk_in 1 7 (by decide)) d_Law_law_409 ?_
      rw [← ea1]
      refine lv_aload_n hx hb d_Law_law_410 rfl (lv_at hl 4 rfl) ?_
      refine lv_iload hx hb d_Law_law_411 (lv_at hl 0 rfl) ?_
      refine lv_iconst (v := 2) hx hb d_Law_law_413 (by decide) ?_
      refine lv_iadd hx hb d_Law_law_414 ?_
      refine va_sld hx hb hX hbl hbA hZ.2.2 (pk_in 2 7 (by decide)) d_Law_law_415 ?_
      rw [← ea2]
      refine mm_calli (mm_runV (As := [.int a1, .int a2]) (rest := [.int r1]) E hZ hml hl.1 lk_Law_40 me_Mod_alarm in_Mod_alarm (c_Mod_alarm l g hR2 a1 a2 (n := 0) rfl (by decide)) hR2.1 cl_Mod.1 ⟨Nat.le_of_ble_eq_true rfl, Nat.le_of_ble_eq_true rfl⟩ rfl (Nat.le_of_ble_eq_true rfl) d_Law_law_416 ⟨Nat.le_of_ble_eq_true rfl, Nat.le_of_ble_eq_true rfl⟩) hZ (fun r2 My H locs hp hZ => ?_)
      have heq := n_alarm hp1 hp
      refine lv_icmp_eq (tgt := 742) hx hb d_Law_law_419 (by decide) (fun c419 => ?_) (fun c419 => ?_)
      · exact hfin My H locs _ _ ls (Nat.le_refl _) hZ (Nat.le_of_ble_eq_true rfl) (Nat.le_of_ble_eq_true rfl) (lv_sub hl [4, 0] rfl)
      · exact absurd heq c419
    · refine lv_tableIn (off := 384) (tgt := 424) hx hb d_Law_law_40 (by decide) (by decide) (by decide) (by decide) ?_
      refine lv_aload_n hx hb d_Law_law_424 rfl (lv_at hl 3 rfl) ?_
      refine lv_aload_n hx hb d_Law_law_425 rfl (lv_at hl 4 rfl) ?_
      refine lv_iload hx hb d_Law_law_426 (lv_at hl 0 rfl) ?_
      refine lv_iconst (v := 1) hx hb d_Law_law_428 (by decide) ?_
      refine lv_iadd hx hb d_Law_law_429 ?_
      refine va_sld hx hb hX hbl hbA hZ.2.2 (pk_in 1 7 (by decide)) d_Law_law_430 ?_
      refine lv_topi (fun a1 ea1 => ?_)
      refine mm_calli (mm_runV (As := [.int a1]) (rest := []) E hZ hml hl.1 lk_Law_41 me_X_state in_X_state (c_X_state l g hox hIt a1) hox cl_X.1 ⟨Nat.le_of_ble_eq_true rfl, Nat.le_of_ble_eq_true rfl⟩ rfl (Nat.le_of_ble_eq_true rfl) d_Law_law_431 ⟨Nat.le_of_ble_eq_true rfl, Nat.le_of_ble_eq_true rfl⟩) hZ (fun r1 Mx H locs hp hZ => ?_)
      have hp1 := hp
      clear hp
      have hk : ∀ u, 19 ≤ u → mm_same u M Mx := by
        obtain ⟨rfl, _⟩ := hp1; exact fun u _ => mm_same.rf
      have hR2 := hR.kept (M' := Mx) (fun u h1 h2 => hk u (by omega))
      refine lv_aload_n hx hb d_Law_law_434 rfl (lv_at hl 2 rfl) ?_
      refine lv_aload_n hx hb d_Law_law_435 rfl (lv_at hl 4 rfl) ?_
      refine lv_iload hx hb d_Law_law_436 (lv_at hl 0 rfl) ?_
      refine lv_iconst (v := 1) hx hb d_Law_law_438 (by decide) ?_
      refine lv_iadd hx hb d_Law_law_439 ?_
      refine va_sld hx hb hX hbl hbA hZ.2.2 (pk_in 1 7 (by decide)) d_Law_law_440 ?_
      rw [← ea1]
      refine mm_calli (mm_runV (As := [.int a1]) (rest := [.int r1]) E hZ hml hl.1 lk_Law_45 me_Mod_state in_Mod_state (c_Mod_state l g hR2 a1) hR2.1 cl_Mod.1 ⟨Nat.le_of_ble_eq_true rfl, Nat.le_of_ble_eq_true rfl⟩ rfl (Nat.le_of_ble_eq_true rfl) d_Law_law_441 ⟨Nat.le_of_ble_eq_true rfl, Nat.le_of_ble_eq_true rfl⟩) hZ (fun r2 My H locs hp hZ => ?_)
      have heq := n_state hp1 hp
      refine lv_icmp_eq (tgt := 742) hx hb d_Law_law_444 (by decide) (fun c444 => ?_) (fun c444 => ?_)
      · exact hfin My H locs _ _ ls (Nat.le_refl _) hZ (Nat.le_of_ble_eq_true rfl) (Nat.le_of_ble_eq_true rfl) (lv_sub hl [4, 0] rfl)
      · exact absurd heq c444
    · refine lv_tableIn (off := 409) (tgt := 449) hx hb d_Law_law_40 (by decide) (by decide) (by decide) (by decide) ?_
      refine lv_aload_n hx hb d_Law_law_449 rfl (lv_at hl 3 rfl) ?_
      refine lv_aload_n hx hb d_Law_law_450 rfl (lv_at hl 4 rfl) ?_
      refine lv_iload hx hb d_Law_law_451 (lv_at hl 0 rfl) ?_
      refine lv_iconst (v := 1) hx hb d_Law_law_453 (by decide) ?_
      refine lv_iadd hx hb d_Law_law_454 ?_
      refine va_sld hx hb hX hbl hbA hZ.2.2 (pk_in 1 7 (by decide)) d_Law_law_455 ?_
      refine lv_topi (fun a1 ea1 => ?_)
      refine lv_i2l hx hb d_Law_law_456 rfl ?_
      refine lv_bipush (v := 32) hx hb d_Law_law_457 (by decide) ?_
      refine lv_lshl hx hb d_Law_law_459 rfl ?_
      refine lv_aload_n hx hb d_Law_law_460 rfl (lv_at hl 4 rfl) ?_
      refine lv_iload hx hb d_Law_law_461 (lv_at hl 0 rfl) ?_
      refine lv_iconst (v := 2) hx hb d_Law_law_463 (by decide) ?_
      refine lv_iadd hx hb d_Law_law_464 ?_
      refine va_sld hx hb hX hbl hbA hZ.2.2 (pk_in 2 7 (by decide)) d_Law_law_465 ?_
      refine lv_topi (fun a2 ea2 => ?_)
      refine lv_i2l hx hb d_Law_law_466 rfl ?_
      refine lv_ldc2 (v := 4294967295) hx hb E.2.2.1 (E.2.2.2.1 _ w_788) d_Law_law_467 ?_
      refine lv_land hx hb d_Law_law_470 ?_
      refine lv_lor hx hb d_Law_law_471 ?_
      refine lv_topl (fun w0 ew0 => ?_)
      refine mm_calli (mm_runV (As := [.long w0]) (rest := []) E hZ hml hl.1 lk_Law_46 me_X_holiday in_X_holiday (c_X_holiday l g hox hHl (by decide) w0) hox cl_X.1 ⟨Nat.le_of_ble_eq_true rfl, Nat.le_of_ble_eq_true rfl⟩ rfl (Nat.le_of_ble_eq_true rfl) d_Law_law_472 ⟨Nat.le_of_ble_eq_true rfl, Nat.le_of_ble_eq_true rfl⟩) hZ (fun r1 Mx H locs hp hZ => ?_)
      have hp1 := hp
      clear hp
      have hk : ∀ u, 19 ≤ u → mm_same u M Mx := by
        rcases hp1 with ⟨_, _, rfl⟩ | ⟨_, (⟨_, _, rfl⟩ | ⟨_, _, _, rfl⟩ | ⟨_, _, _, _, _, _, hs⟩)⟩
        · exact fun u _ => mm_same.rf
        · exact fun u _ => mm_same.rf
        · exact fun u _ => mm_same.rf
        · exact fun u hu => hs u (by omega) (by omega)
      have hR2 := hR.kept (M' := Mx) (fun u h1 h2 => hk u (by omega))
      refine lv_aload_n hx hb d_Law_law_475 rfl (lv_at hl 2 rfl) ?_
      refine lv_aload_n hx hb d_Law_law_476 rfl (lv_at hl 4 rfl) ?_
      refine lv_iload hx hb d_Law_law_477 (lv_at hl 0 rfl) ?_
      refine lv_iconst (v := 1) hx hb d_Law_law_479 (by decide) ?_
      refine lv_iadd hx hb d_Law_law_480 ?_
      refine va_sld hx hb hX hbl hbA hZ.2.2 (pk_in 1 7 (by decide)) d_Law_law_481 ?_
      rw [← ea1]
      refine lv_i2l hx hb d_Law_law_482 rfl ?_
      refine lv_bipush (v := 32) hx hb d_Law_law_483 (by decide) ?_
      refine lv_lshl hx hb d_Law_law_485 rfl ?_
      refine lv_aload_n hx hb d_Law_law_486 rfl (lv_at hl 4 rfl) ?_
      refine lv_iload hx hb d_Law_law_487 (lv_at hl 0 rfl) ?_
      refine lv_iconst (v := 2) hx hb d_Law_law_489 (by decide) ?_
      refine lv_iadd hx hb d_Law_law_490 ?_
      refine va_sld hx hb hX hbl hbA hZ.2.2 (pk_in 2 7 (by decide)) d_Law_law_491 ?_
      rw [← ea2]
      refine lv_i2l hx hb d_Law_law_492 rfl ?_
      refine lv_ldc2 (v := 4294967295) hx hb E.2.2.1 (E.2.2.2.1 _ w_788) d_Law_law_493 ?_
      refine lv_land hx hb d_Law_law_496 ?_
      refine lv_lor hx hb d_Law_law_497 ?_
      rw [← ew0]
      refine mm_calli (mm_runV (As := [.long w0]) (rest := [.int r1]) E hZ hml hl.1 lk_Law_49 me_Mod_holiday in_Mod_holiday (c_Mod_holiday l g hR2 w0 (n := 0) rfl) hR2.1 cl_Mod.1 ⟨Nat.le_of_ble_eq_true rfl, Nat.le_of_ble_eq_true rfl⟩ rfl (Nat.le_of_ble_eq_true rfl) d_Law_law_498 ⟨Nat.le_of_ble_eq_true rfl, Nat.le_of_ble_eq_true rfl⟩) hZ (fun r2 My H locs hp hZ => ?_)
      have heq := n_holiday hp1 hp
      refine lv_icmp_eq (tgt := 742) hx hb d_Law_law_501 (by decide) (fun c501 => ?_) (fun c501 => ?_)
      · exact hfin My H locs _ _ ls (Nat.le_refl _) hZ (Nat.le_of_ble_eq_true rfl) (Nat.le_of_ble_eq_true rfl) (lv_sub hl [4, 0] rfl)
      · exact absurd heq c501
    · refine lv_tableIn (off := 466) (tgt := 506) hx hb d_Law_law_40 (by decide) (by decide) (by decide) (by decide) ?_
      refine lv_aload_n hx hb d_Law_law_506 rfl (lv_at hl 3 rfl) ?_
      refine lv_aload_n hx hb d_Law_law_507 rfl (lv_at hl 4 rfl) ?_
      refine lv_iload hx hb d_Law_law_508 (lv_at hl 0 rfl) ?_
      refine lv_iconst (v := 1) hx hb d_Law_law_510 (by decide) ?_
      refine lv_iadd hx hb d_Law_law_511 ?_
      refine va_sld hx hb hX hbl hbA hZ.2.2 (pk_in 1 7 (by decide)) d_Law_law_512 ?_
      refine lv_topi (fun a1 ea1 => ?_)
      refine lv_aload_n hx hb d_Law_law_513 rfl (lv_at hl 4 rfl) ?_
      refine lv_iload hx hb d_Law_law_514 (lv_at hl 0 rfl) ?_
      refine lv_iconst (v := 2) hx hb d_Law_law_516 (by decide) ?_
      refine lv_iadd hx hb d_Law_law_517 ?_
      refine va_sld hx hb hX hbl hbA hZ.2.2 (pk_in 2 7 (by decide)) d_Law_law_518 ?_
      refine lv_topi (fun a2 ea2 => ?_)
      refine lv_aload_n hx hb d_Law_law_519 rfl (lv_at hl 1 rfl) ?_
      by_cases hv : (0 ≤ a1 ∧ a1 < 50) ∧ (a2 = 0 ∨ a2 = 1)
      · obtain ⟨pj, hpj, epj⟩ := in_pl hv.1
        subst epj
        refine mm_calli (mm_runSW (As := [.ref x, .int (nI pj), .int a2, .ref o3]) (rest := []) E hZ hml hl.1 w_529 cw_share w_0 ⟨by decide, by decide, ps_share⟩ w_530 (c_Law_shareT l g hox hCn hpj (Int32.le_refl 0) hv.2 hst) ⟨Nat.le_of_ble_eq_true rfl, Nat.le_of_ble_eq_true rfl⟩ rfl (Nat.le_of_ble_eq_true rfl) d_Law_law_520 ⟨Nat.le_of_ble_eq_true rfl, Nat.le_of_ble_eq_true rfl⟩) hZ (fun rk0 Mx H locs hp hZ => ?_)
        obtain ⟨eMx, rfl⟩ := hp
        rw [eMx] at hZ
        refine lv_istore (lv' := [(5, .int 1), (4, .int 0), (3, .ref o3), (2, .ref q), (1, .ref x), (0, .ref b)]) hx hb d_Law_law_523 hl (by decide) rfl (fun ls hl => ?_)
        refine lv_aload_n hx hb d_Law_law_525 rfl (lv_at hl 3 rfl) ?_
        refine lv_aload_n hx hb d_Law_law_526 rfl (lv_at hl 5 rfl) ?_
        refine lv_iload hx hb d_Law_law_527 (lv_at hl 1 rfl) ?_
        refine lv_iconst (v := 1) hx hb d_Law_law_529 (by decide) ?_
        refine lv_iadd hx hb d_Law_law_530 ?_
        refine va_sld hx hb hX hbl hbA hZ.2.2 (pk_in 1 7 (by decide)) d_Law_law_531 ?_
        rw [← ea1]
        refine lv_aload_n hx hb d_Law_law_532 rfl (lv_at hl 5 rfl) ?_
        refine lv_iload hx hb d_Law_law_533 (lv_at hl 1 rfl) ?_
        refine lv_iconst (v := 2) hx hb d_Law_law_535 (by decide) ?_
        refine lv_iadd hx hb d_Law_law_536 ?_
        refine va_sld hx hb hX hbl hbA hZ.2.2 (pk_in 2 7 (by decide)) d_Law_law_537 ?_
        rw [← ea2]
        refine mm_calll (mm_runV (As := [.int (nI pj), .int a2]) (rest := []) E hZ hml hl.1 lk_Law_55 me_Mod_share in_Mod_share (c_Mod_share l g hR (nI pj) a2 (bg := fun _ => 0) (lt := fun _ => 0) (fun j _ => ⟨rzo (by decide) j, rzo (by decide) j, by decide, by decide⟩)) hR.1 cl_Mod.1 ⟨Nat.le_of_ble_eq_true rfl, Nat.le_of_ble_eq_true rfl⟩ rfl (Nat.le_of_ble_eq_true rfl) d_Law_law_538 ⟨Nat.le_of_ble_eq_true rfl, Nat.le_of_ble_eq_true rfl⟩) hZ (fun r2 My H locs hp hZ => ?_)
        have hS : ∃ S2, Rs g My q ad (rz_I 200) (fun _ _ => 0) S2 0 ∧ S2 0 = 1 := by
          rcases hp with ⟨h, _⟩ | ⟨j, hj, _, (⟨h, _⟩ | ⟨_, _, _, h⟩ | ⟨_, h, _⟩)⟩
          · exact absurd rfl (h pj (by omega))
          · exact absurd hv.2 h
          · exact ⟨_, h.1, va_up_self _ _ _⟩
          · exact absurd h (by decide)
        obtain ⟨S2, hR3, hS2⟩ := hS
        refine lv_lstore (lv' := [(6, .long r2), (5, .int 1), (4, .int 0), (3, .ref o3), (2, .ref q), (1, .ref x), (0, .ref b)]) hx hb d_Law_law_541 hl (by decide) rfl (fun ls hl => ?_)
        refine lv_aload_n hx hb d_Law_law_543 rfl (lv_at hl 4 rfl) ?_
        refine mm_calli (mm_runV (As := []) (rest := []) E hZ hml hl.1 lk_Law_56 me_Mod_thrown in_Mod_thrown (c_Mod_thrown l g hR3) hR3.1 cl_Mod.1 ⟨Nat.le_of_ble_eq_true rfl, Nat.le_of_ble_eq_true rfl⟩ rfl (Nat.le_of_ble_eq_true rfl) d_Law_law_544 ⟨Nat.le_of_ble_eq_true rfl, Nat.le_of_ble_eq_true rfl⟩) hZ (fun r3 M1 H locs hp hZ => ?_)
        rw [hp.1] at hZ
        replace hp := hp.2
        refine lv_iload hx hb d_Law_law_547 (lv_at hl 1 rfl) ?_
        refine lv_icmp_eq (tgt := 554) hx hb d_Law_law_549 (by decide) (fun c549 => ?_) (fun c549 => ?_)
        · refine lv_iload hx hb d_Law_law_554 (lv_at hl 1 rfl) ?_
          refine lv_if_ne (tgt := 570) hx hb d_Law_law_556 (by decide) (fun c556 => ?_) (fun c556 => ?_)
          · refine lv_goto (tgt := 742) hx hb d_Law_law_570 (by decide) ?_
            exact hfin My H locs _ _ ls (Nat.le_refl _) hZ (Nat.le_of_ble_eq_true rfl) (Nat.le_of_ble_eq_true rfl) (lv_sub hl [6, 2] rfl)
          · exact absurd c556 (by decide)
        · exact absurd (hp.trans hS2) c549
      · refine mm_calli (mm_runSW (As := [.ref x, .int a1, .int a2, .ref o3]) (rest := []) E hZ hml hl.1 w_529 cw_share w_0 ⟨by decide, by decide, ps_share⟩ w_530 (c_Law_shareN l g hox a1 a2 hv ho3) ⟨Nat.le_of_ble_eq_true rfl, Nat.le_of_ble_eq_true rfl⟩ rfl (Nat.le_of_ble_eq_true rfl) d_Law_law_520 ⟨Nat.le_of_ble_eq_true rfl, Nat.le_of_ble_eq_true rfl⟩) hZ (fun rk0 Mx H locs hp hZ => ?_)
        obtain ⟨rfl, rs, eMx, hrs⟩ := hp
        have hR2 := hR.kept (M' := Mx) (fun u h1 h2 => by rw [eMx]; exact mm_same.up ho3 (by omega) _)
        have ho4 : Mx o3 = some (al 50 (g.2.2 1) 1 (va_up (fun _ => 0) 0 rs)) := (congrFun eMx o3).trans (mm_self _ _ _)
        refine lv_istore (lv' := [(5, .int 0), (4, .int 0), (3, .ref o3), (2, .ref q), (1, .ref x), (0, .ref b)]) hx hb d_Law_law_523 hl (by decide) rfl (fun ls hl => ?_)
        refine lv_aload_n hx hb d_Law_law_525 rfl (lv_at hl 3 rfl) ?_
        refine lv_aload_n hx hb d_Law_law_526 rfl (lv_at hl 5 rfl) ?_
        refine lv_iload hx hb d_Law_law_527 (lv_at hl 1 rfl) ?_
        refine lv_iconst (v := 1) hx hb d_Law_law_529 (by decide) ?_
        refine lv_iadd hx hb d_Law_law_530 ?_
        refine va_sld hx hb hX hbl hbA hZ.2.2 (pk_in 1 7 (by decide)) d_Law_law_531 ?_
        rw [← ea1]
        refine lv_aload_n hx hb d_Law_law_532 rfl (lv_at hl 5 rfl) ?_
        refine lv_iload hx hb d_Law_law_533 (lv_at hl 1 rfl) ?_
        refine lv_iconst (v := 2) hx hb d_Law_law_535 (by decide) ?_
        refine lv_iadd hx hb d_Law_law_536 ?_
        refine va_sld hx hb hX hbl hbA hZ.2.2 (pk_in 2 7 (by decide)) d_Law_law_537 ?_
        rw [← ea2]
        refine mm_calll (mm_runV (As := [.int a1, .int a2]) (rest := []) E hZ hml hl.1 lk_Law_55 me_Mod_share in_Mod_share (c_Mod_share l g hR2 a1 a2 (bg := fun _ => 0) (lt := fun _ => 0) (fun j _ => ⟨rzo (by decide) j, rzo (by decide) j, by decide, by decide⟩)) hR2.1 cl_Mod.1 ⟨Nat.le_of_ble_eq_true rfl, Nat.le_of_ble_eq_true rfl⟩ rfl (Nat.le_of_ble_eq_true rfl) d_Law_law_538 ⟨Nat.le_of_ble_eq_true rfl, Nat.le_of_ble_eq_true rfl⟩) hZ (fun r2 My H locs hp hZ => ?_)
        have hS : ∃ S2, Rq g Mx My q ad (rz_I 200) (fun _ _ => 0) S2 0 ∧ S2 0 = 0 ∧ rs = r2 := by
          rcases hp with ⟨h, rfl, hq⟩ | ⟨j, hj, rfl, (⟨h, rfl, hq⟩ | ⟨h, _⟩ | ⟨h, _⟩)⟩
          · rcases hrs with ⟨_, rfl⟩ | ⟨h2, _⟩
            · exact ⟨_, hq, va_up_self _ _ _, rfl⟩
            · obtain ⟨pj, hpj, e⟩ := in_pl h2
              exact absurd e (h pj (by omega))
          · rcases hrs with ⟨h2, _⟩ | ⟨_, _, rfl⟩
            · exact absurd (pl_in (by omega)) h2
            · exact ⟨_, hq, va_up_self _ _ _, rfl⟩
          · exact absurd ⟨pl_in (by omega), h⟩ hv
          · exact absurd ⟨pl_in (by omega), h⟩ hv
        obtain ⟨S2, hR3, hS2, hrr⟩ := hS
        have ho5 := hR3.2 50 (by omega) _ _ ho4
        refine lv_lstore (lv' := [(6, .long r2), (5, .int 0), (4, .int 0), (3, .ref o3), (2, .ref q), (1, .ref x), (0, .ref b)]) hx hb d_Law_law_541 hl (by decide) rfl (fun ls hl => ?_)
        refine lv_aload_n hx hb d_Law_law_543 rfl (lv_at hl 4 rfl) ?_
        refine mm_calli (mm_runV (As := []) (rest := []) E hZ hml hl.1 lk_Law_56 me_Mod_thrown in_Mod_thrown (c_Mod_thrown l g hR3.1) hR3.1.1 cl_Mod.1 ⟨Nat.le_of_ble_eq_true rfl, Nat.le_of_ble_eq_true rfl⟩ rfl (Nat.le_of_ble_eq_true rfl) d_Law_law_544 ⟨Nat.le_of_ble_eq_true rfl, Nat.le_of_ble_eq_true rfl⟩) hZ (fun r3 M1 H locs hp hZ => ?_)
        rw [hp.1] at hZ
        replace hp := hp.2
        refine lv_iload hx hb d_Law_law_547 (lv_at hl 1 rfl) ?_
        refine lv_icmp_eq (tgt := 554) hx hb d_Law_law_549 (by decide) (fun c549 => ?_) (fun c549 => ?_)
        · refine lv_iload hx hb d_Law_law_554 (lv_at hl 1 rfl) ?_
          refine lv_if_ne (tgt := 570) hx hb d_Law_law_556 (by decide) (fun c556 => ?_) (fun c556 => ?_)
          · exact absurd rfl c556
          · refine lv_aload_n hx hb d_Law_law_559 rfl (lv_at hl 3 rfl) ?_
            refine lv_iconst (v := 0) hx hb d_Law_law_560 (by decide) ?_
            refine mm_lald (t0 := 1) E hZ ho5 rfl rfl (show 0 < 1 by omega) (by decide) d_Law_law_561 ?_
            refine lv_lload hx hb d_Law_law_562 (lv_at hl 0 rfl) ?_
            refine W.lcmp hx hb d_Law_law_564 ?_
            refine lv_if_eq (tgt := 570) hx hb d_Law_law_565 (by decide) (fun c565 => ?_) (fun c565 => ?_)
            · have c565 := (lg_cmp_eq _ _).mp c565
              refine lv_goto (tgt := 742) hx hb d_Law_law_570 (by decide) ?_
              exact hfin My H locs _ _ ls (Nat.le_refl _) hZ (Nat.le_of_ble_eq_true rfl) (Nat.le_of_ble_eq_true rfl) (lv_sub hl [6, 2] rfl)
            · have c565 := mt (lg_cmp_eq _ _).mpr c565
              exact absurd ((va_up_self _ _ _).trans hrr) c565
        · exact absurd (hp.trans hS2) c549
    · refine lv_tableIn (off := 533) (tgt := 573) hx hb d_Law_law_40 (by decide) (by decide) (by decide) (by decide) ?_
      refine lv_aload_n hx hb d_Law_law_573 rfl (lv_at hl 3 rfl) ?_
      refine lv_aload_n hx hb d_Law_law_574 rfl (lv_at hl 4 rfl) ?_
      refine lv_iload hx hb d_Law_law_575 (lv_at hl 0 rfl) ?_
      refine lv_iconst (v := 1) hx hb d_Law_law_577 (by decide) ?_
      refine lv_iadd hx hb d_Law_law_578 ?_
      refine va_sld hx hb hX hbl hbA hZ.2.2 (pk_in 1 7 (by decide)) d_Law_law_579 ?_
      refine lv_topi (fun a1 ea1 => ?_)
      refine lv_aload_n hx hb d_Law_law_580 rfl (lv_at hl 4 rfl) ?_
      refine lv_iload hx hb d_Law_law_581 (lv_at hl 0 rfl) ?_
      refine lv_iconst (v := 2) hx hb d_Law_law_583 (by decide) ?_
      refine lv_iadd hx hb d_Law_law_584 ?_
      refine va_sld hx hb hX hbl hbA hZ.2.2 (pk_in 2 7 (by decide)) d_Law_law_585 ?_
      refine lv_topi (fun a2 ea2 => ?_)
      refine mm_calll (mm_runV (As := [.int a1, .int a2]) (rest := []) E hZ hml hl.1 lk_Law_60 me_X_percentile in_X_percentile (c_X_percentile l g hox hDl (by decide) a1 a2) hox cl_X.1 ⟨Nat.le_of_ble_eq_true rfl, Nat.le_of_ble_eq_true rfl⟩ rfl (Nat.le_of_ble_eq_true rfl) d_Law_law_586 ⟨Nat.le_of_ble_eq_true rfl, Nat.le_of_ble_eq_true rfl⟩) hZ (fun r1 Mx H locs hp hZ => ?_)
      have hp1 := hp
      clear hp
      have hk : ∀ u, 19 ≤ u → mm_same u M Mx := by
        obtain ⟨rfl, _⟩ := hp1; exact fun u _ => mm_same.rf
      have hR2 := hR.kept (M' := Mx) (fun u h1 h2 => hk u (by omega))
      refine lv_aload_n hx hb d_Law_law_589 rfl (lv_at hl 2 rfl) ?_
      refine lv_aload_n hx hb d_Law_law_590 rfl (lv_at hl 4 rfl) ?_
      refine lv_iload hx hb d_Law_law_591 (lv_at hl 0 rfl) ?_
      refine lv_iconst (v := 1) hx hb d_Law_law_593 (by decide) ?_
      refine lv_iadd hx hb d_Law_law_594 ?_
      refine va_sld hx hb hX hbl hbA hZ.2.2 (pk_in 1 7 (by decide)) d_Law_law_595 ?_
      rw [← ea1]
      refine lv_aload_n hx hb d_Law_law_596 rfl (lv_at hl 4 rfl) ?_
      refine lv_iload hx hb d_Law_law_597 (lv_at hl 0 rfl) ?_
      refine lv_iconst (v := 2) hx hb d_Law_law_599 (by decide) ?_
      refine lv_iadd hx hb d_Law_law_600 ?_
      refine va_sld hx hb hX hbl hbA hZ.2.2 (pk_in 2 7 (by decide)) d_Law_law_601 ?_
      rw [← ea2]
      refine mm_calll (mm_runV (As := [.int a1, .int a2]) (rest := [.long r1]) E hZ hml hl.1 lk_Law_63 me_Mod_percentile in_Mod_percentile (c_Mod_percentile l g hR2 a1 a2 (cn := fun _ => 0) (fun j _ => ⟨rzo (by decide) j, by decide⟩)) hR2.1 cl_Mod.1 ⟨Nat.le_of_ble_eq_true rfl, Nat.le_of_ble_eq_true rfl⟩ rfl (Nat.le_of_ble_eq_true rfl) d_Law_law_602 ⟨Nat.le_of_ble_eq_true rfl, Nat.le_of_ble_eq_true rfl⟩) hZ (fun r2 My H locs hp hZ => ?_)
      have heq := n_percentile hp1 hp
      refine W.lcmp hx hb d_Law_law_605 ?_
      refine lv_if_eq (tgt := 742) hx hb d_Law_law_606 (by decide) (fun c606 => ?_) (fun c606 => ?_)
      · have c606 := (lg_cmp_eq _ _).mp c606
        exact hfin My H locs _ _ ls (Nat.le_refl _) hZ (Nat.le_of_ble_eq_true rfl) (Nat.le_of_ble_eq_true rfl) (lv_sub hl [4, 0] rfl)
      · have c606 := mt (lg_cmp_eq _ _).mpr c606
        exact absurd heq c606
    · refine lv_tableIn (off := 571) (tgt := 611) hx hb d_Law_law_40 (by decide) (by decide) (by decide) (by decide) ?_
      refine lv_aload_n hx hb d_Law_law_611 rfl (lv_at hl 3 rfl) ?_
      refine lv_aload_n hx hb d_Law_law_612 rfl (lv_at hl 4 rfl) ?_
      refine lv_iload hx hb d_Law_law_613 (lv_at hl 0 rfl) ?_
      refine lv_iconst (v := 1) hx hb d_Law_law_615 (by decide) ?_
      refine lv_iadd hx hb d_Law_law_616 ?_
      refine va_sld hx hb hX hbl hbA hZ.2.2 (pk_in 1 7 (by decide)) d_Law_law_617 ?_
      refine lv_topi (fun a1 ea1 => ?_)
      refine lv_aload_n hx hb d_Law_law_618 rfl (lv_at hl 4 rfl) ?_
      refine lv_iload hx hb d_Law_law_619 (lv_at hl 0 rfl) ?_
      refine lv_iconst (v := 2) hx hb d_Law_law_621 (by decide) ?_
      refine lv_iadd hx hb d_Law_law_622 ?_
      refine va_sld hx hb hX hbl hbA hZ.2.2 (pk_in 2 7 (by decide)) d_Law_law_623 ?_
      refine lv_topi (fun a2 ea2 => ?_)
      refine lv_i2l hx hb d_Law_law_624 rfl ?_
      refine lv_bipush (v := 32) hx hb d_Law_law_625 (by decide) ?_
      refine lv_lshl hx hb d_Law_law_627 rfl ?_
      refine lv_aload_n hx hb d_Law_law_628 rfl (lv_at hl 4 rfl) ?_
      refine lv_iload hx hb d_Law_law_629 (lv_at hl 0 rfl) ?_
      refine lv_iconst (v := 3) hx hb d_Law_law_631 (by decide) ?_
      refine lv_iadd hx hb d_Law_law_632 ?_
      refine va_sld hx hb hX hbl hbA hZ.2.2 (pk_in 3 7 (by decide)) d_Law_law_633 ?_
      refine lv_topi (fun a3 ea3 => ?_)
      refine lv_i2l hx hb d_Law_law_634 rfl ?_
      refine lv_ldc2 (v := 4294967295) hx hb E.2.2.1 (E.2.2.2.1 _ w_788) d_Law_law_635 ?_
      refine lv_land hx hb d_Law_law_638 ?_
      refine lv_lor hx hb d_Law_law_639 ?_
      refine lv_topl (fun w0 ew0 => ?_)
      refine mm_calli (mm_runV (As := [.int a1, .long w0]) (rest := []) E hZ hml hl.1 lk_Law_64 me_X_found in_X_found (c_X_found l g hox hIt a1 w0) hox cl_X.1 ⟨Nat.le_of_ble_eq_true rfl, Nat.le_of_ble_eq_true rfl⟩ rfl (Nat.le_of_ble_eq_true rfl) d_Law_law_640 ⟨Nat.le_of_ble_eq_true rfl, Nat.le_of_ble_eq_true rfl⟩) hZ (fun r1 Mx H locs hp hZ => ?_)
      have hp1 := hp
      clear hp
      have hk : ∀ u, 19 ≤ u → mm_same u M Mx := by
        rcases hp1 with ⟨_, _, rfl⟩ | ⟨j, hj, _, (⟨_, _, rfl⟩ | ⟨_, _, _, rfl⟩ | ⟨_, h, _⟩)⟩
        · exact fun u _ => mm_same.rf
        · exact fun u _ => mm_same.rf
        · exact fun u _ => mm_same.rf
        · exact absurd rfl h
      have hR2 := hR.kept (M' := Mx) (fun u h1 h2 => hk u (by omega))
      refine lv_aload_n hx hb d_Law_law_643 rfl (lv_at hl 2 rfl) ?_
      refine lv_aload_n hx hb d_Law_law_644 rfl (lv_at hl 4 rfl) ?_
      refine lv_iload hx hb d_Law_law_645 (lv_at hl 0 rfl) ?_
      refine lv_iconst (v := 1) hx hb d_Law_law_647 (by decide) ?_
      refine lv_iadd hx hb d_Law_law_648 ?_
      refine va_sld hx hb hX hbl hbA hZ.2.2 (pk_in 1 7 (by decide)) d_Law_law_649 ?_
      rw [← ea1]
      refine lv_aload_n hx hb d_Law_law_650 rfl (lv_at hl 4 rfl) ?_
      refine lv_iload hx hb d_Law_law_651 (lv_at hl 0 rfl) ?_
      refine lv_iconst (v := 2) hx hb d_Law_law_653 (by decide) ?_
      refine lv_iadd hx hb d_Law_law_654 ?_
      refine va_sld hx hb hX hbl hbA hZ.2.2 (pk_in 2 7 (by decide)) d_Law_law_655 ?_
      rw [← ea2]
      refine lv_i2l hx hb d_Law_law_656 rfl ?_
      refine lv_bipush (v := 32) hx hb d_Law_law_657 (by decide) ?_
      refine lv_lshl hx hb d_Law_law_659 rfl ?_
      refine lv_aload_n hx hb d_Law_law_660 rfl (lv_at hl 4 rfl) ?_
      refine lv_iload hx hb d_Law_law_661 (lv_at hl 0 rfl) ?_
      refine lv_iconst (v := 3) hx hb d_Law_law_663 (by decide) ?_
      refine lv_iadd hx hb d_Law_law_664 ?_
      refine va_sld hx hb hX hbl hbA hZ.2.2 (pk_in 3 7 (by decide)) d_Law_law_665 ?_
      rw [← ea3]
      refine lv_i2l hx hb d_Law_law_666 rfl ?_
      refine lv_ldc2 (v := 4294967295) hx hb E.2.2.1 (E.2.2.2.1 _ w_788) d_Law_law_667 ?_
      refine lv_land hx hb d_Law_law_670 ?_
      refine lv_lor hx hb d_Law_law_671 ?_
      rw [← ew0]
      refine mm_calli (mm_runV (As := [.int a1, .long w0]) (rest := [.int r1]) E hZ hml hl.1 lk_Law_68 me_Mod_found in_Mod_found (c_Mod_found l g hR2 a1 w0) hR2.1 cl_Mod.1 ⟨Nat.le_of_ble_eq_true rfl, Nat.le_of_ble_eq_true rfl⟩ rfl (Nat.le_of_ble_eq_true rfl) d_Law_law_672 ⟨Nat.le_of_ble_eq_true rfl, Nat.le_of_ble_eq_true rfl⟩) hZ (fun r2 My H locs hp hZ => ?_)
      have heq := n_found hp1 hp
      refine lv_icmp_eq (tgt := 742) hx hb d_Law_law_675 (by decide) (fun c675 => ?_) (fun c675 => ?_)
      · exact hfin My H locs _ _ ls (Nat.le_refl _) hZ (Nat.le_of_ble_eq_true rfl) (Nat.le_of_ble_eq_true rfl) (lv_sub hl [4, 0] rfl)
      · exact absurd heq c675
    · refine lv_tableIn (off := 640) (tgt := 680) hx hb d_Law_law_40 (by decide) (by decide) (by decide) (by decide) ?_
      refine lv_aload_n hx hb d_Law_law_680 rfl (lv_at hl 3 rfl) ?_
      refine lv_aload_n hx hb d_Law_law_681 rfl (lv_at hl 4 rfl) ?_
      refine lv_iload hx hb d_Law_law_682 (lv_at hl 0 rfl) ?_
      refine lv_iconst (v := 1) hx hb d_Law_law_684 (by decide) ?_
      refine lv_iadd hx hb d_Law_law_685 ?_
      refine va_sld hx hb hX hbl hbA hZ.2.2 (pk_in 1 7 (by decide)) d_Law_law_686 ?_
      refine lv_topi (fun a1 ea1 => ?_)
      refine lv_aload_n hx hb d_Law_law_687 rfl (lv_at hl 4 rfl) ?_
      refine lv_iload hx hb d_Law_law_688 (lv_at hl 0 rfl) ?_
      refine lv_iconst (v := 2) hx hb d_Law_law_690 (by decide) ?_
      refine lv_iadd hx hb d_Law_law_691 ?_
      refine va_sld hx hb hX hbl hbA hZ.2.2 (pk_in 2 7 (by decide)) d_Law_law_692 ?_
      refine lv_topi (fun a2 ea2 => ?_)
      refine mm_calli (mm_runV (As := [.int a1, .int a2]) (rest := []) E hZ hml hl.1 lk_Law_69 me_X_cluster in_X_cluster (c_X_cluster l g hox hCn a1 a2) hox cl_X.1 ⟨Nat.le_of_ble_eq_true rfl, Nat.le_of_ble_eq_true rfl⟩ rfl (Nat.le_of_ble_eq_true rfl) d_Law_law_693 ⟨Nat.le_of_ble_eq_true rfl, Nat.le_of_ble_eq_true rfl⟩) hZ (fun r1 Mx H locs hp hZ => ?_)
      have hp1 := hp
      clear hp
      have hk : ∀ u, 19 ≤ u → mm_same u M Mx := by
        obtain ⟨rfl, _⟩ := hp1; exact fun u _ => mm_same.rf
      have hR2 := hR.kept (M' := Mx) (fun u h1 h2 => hk u (by omega))
      refine lv_aload_n hx hb d_Law_law_696 rfl (lv_at hl 2 rfl) ?_
      refine lv_aload_n hx hb d_Law_law_697 rfl (lv_at hl 4 rfl) ?_
      refine lv_iload hx hb d_Law_law_698 (lv_at hl 0 rfl) ?_
      refine lv_iconst (v := 1) hx hb d_Law_law_700 (by decide) ?_
      refine lv_iadd hx hb d_Law_law_701 ?_
      refine va_sld hx hb hX hbl hbA hZ.2.2 (pk_in 1 7 (by decide)) d_Law_law_702 ?_
      rw [← ea1]
      refine lv_aload_n hx hb d_Law_law_703 rfl (lv_at hl 4 rfl) ?_
      refine lv_iload hx hb d_Law_law_704 (lv_at hl 0 rfl) ?_
      refine lv_iconst (v := 2) hx hb d_Law_law_706 (by decide) ?_
      refine lv_iadd hx hb d_Law_law_707 ?_
      refine va_sld hx hb hX hbl hbA hZ.2.2 (pk_in 2 7 (by decide)) d_Law_law_708 ?_
      rw [← ea2]
      refine mm_calli (mm_runV (As := [.int a1, .int a2]) (rest := [.int r1]) E hZ hml hl.1 lk_Law_72 me_Mod_cluster in_Mod_cluster (c_Mod_cluster l g hR2 a1 a2 (fun k a h => by rw [clp_0] at h; cases h)) hR2.1 cl_Mod.1 ⟨Nat.le_of_ble_eq_true rfl, Nat.le_of_ble_eq_true rfl⟩ rfl (Nat.le_of_ble_eq_true rfl) d_Law_law_709 ⟨Nat.le_of_ble_eq_true rfl, Nat.le_of_ble_eq_true rfl⟩) hZ (fun r2 My H locs hp hZ => ?_)
      have heq := n_cluster hp1 hp
      refine lv_icmp_eq (tgt := 742) hx hb d_Law_law_712 (by decide) (fun c712 => ?_) (fun c712 => ?_)
      · exact hfin My H locs _ _ ls (Nat.le_refl _) hZ (Nat.le_of_ble_eq_true rfl) (Nat.le_of_ble_eq_true rfl) (lv_sub hl [4, 0] rfl)
      · exact absurd heq c712
    · refine lv_tableIn (off := 677) (tgt := 717) hx hb d_Law_law_40 (by decide) (by decide) (by decide) (by decide) ?_
      refine lv_aload_n hx hb d_Law_law_717 rfl (lv_at hl 3 rfl) ?_
      refine lv_aload_n hx hb d_Law_law_718 rfl (lv_at hl 4 rfl) ?_
      refine lv_iload hx hb d_Law_law_719 (lv_at hl 0 rfl) ?_
      refine lv_iconst (v := 1) hx hb d_Law_law_721 (by decide) ?_
      refine lv_iadd hx hb d_Law_law_722 ?_
      refine va_sld hx hb hX hbl hbA hZ.2.2 (pk_in 1 7 (by decide)) d_Law_law_723 ?_
      refine lv_topi (fun a1 ea1 => ?_)
      refine mm_calli (mm_runV (As := [.int a1]) (rest := []) E hZ hml hl.1 lk_Law_73 me_X_failing in_X_failing (c_X_failing l g hox hRl (fun j hj => absurd hj (Nat.not_lt_zero j)) a1) hox cl_X.1 ⟨Nat.le_of_ble_eq_true rfl, Nat.le_of_ble_eq_true rfl⟩ rfl (Nat.le_of_ble_eq_true rfl) d_Law_law_724 ⟨Nat.le_of_ble_eq_true rfl, Nat.le_of_ble_eq_true rfl⟩) hZ (fun r1 Mx H locs hp hZ => ?_)
      have hp1 := hp
      clear hp
      have hk : ∀ u, 19 ≤ u → mm_same u M Mx := by
        obtain ⟨rfl, _⟩ := hp1; exact fun u _ => mm_same.rf
      have hR2 := hR.kept (M' := Mx) (fun u h1 h2 => hk u (by omega))
      refine lv_aload_n hx hb d_Law_law_727 rfl (lv_at hl 2 rfl) ?_
      refine lv_aload_n hx hb d_Law_law_728 rfl (lv_at hl 4 rfl) ?_
      refine lv_iload hx hb d_Law_law_729 (lv_at hl 0 rfl) ?_
      refine lv_iconst (v := 1) hx hb d_Law_law_731 (by decide) ?_
      refine lv_iadd hx hb d_Law_law_732 ?_
      refine va_sld hx hb hX hbl hbA hZ.2.2 (pk_in 1 7 (by decide)) d_Law_law_733 ?_
      rw [← ea1]
      refine mm_calli (mm_runV (As := [.int a1]) (rest := [.int r1]) E hZ hml hl.1 lk_Law_76 me_Mod_failing in_Mod_failing (c_Mod_failing l g hR2 a1 (f := 0) rfl (by decide)) hR2.1 cl_Mod.1 ⟨Nat.le_of_ble_eq_true rfl, Nat.le_of_ble_eq_true rfl⟩ rfl (Nat.le_of_ble_eq_true rfl) d_Law_law_734 ⟨Nat.le_of_ble_eq_true rfl, Nat.le_of_ble_eq_true rfl⟩) hZ (fun r2 My H locs hp hZ => ?_)
      have heq := n_failing hp1 hp
      refine lv_icmp_eq (tgt := 742) hx hb d_Law_law_737 (by decide) (fun c737 => ?_) (fun c737 => ?_)
      · exact hfin My H locs _ _ ls (Nat.le_refl _) hZ (Nat.le_of_ble_eq_true rfl) (Nat.le_of_ble_eq_true rfl) (lv_sub hl [4, 0] rfl)
      · exact absurd heq c737
    · refine lv_tableOut (tgt := 742) hx hb d_Law_law_40 (Or.inr (by rw [nI_toInt (by omega)]; omega)) (by decide) ?_
      exact hfin M H locs _ _ ls (Nat.le_refl _) hZ (Nat.le_of_ble_eq_true rfl) (Nat.le_of_ble_eq_true rfl) (lv_sub hl [4, 0] rfl)
