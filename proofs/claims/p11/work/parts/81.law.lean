def lw_P (b : Addr) (xs : List Int32) (args : Array Value) (s : State) : Prop := args = #[.ref b] ∧ s.IntsAt b xs ∧ xs.length ≤ 3584 ∧ (Jvm.Cond.and given_1 narrow_1).before args s = true
def lw_Q (_ : Array Value) (s : State) (o : Outcome) (t : State) : Prop := o = .returned (some (.int 1)) ∧ Framed s o t [] 601024 7293033
def lw_Z (below : List Frame) (a : Array Value) (s : State) : State → Prop := fun t => ∃ o, t.status = .running ∧ Ended t below o ∧ lw_Q a s o t
/-- the law's own end, with 1 on the stack, nothing written that was there before, its room as the claim has it -/
theorem lw_ret {p : Program} {l : Launch} {e : Env} {s : State} {m : MethodId} {below : List Frame} {meth : Method} {c : Code} {b : Nat} (hx : p.tables.exec = Jvm.exec) (hb : c.code = code) (hr : meth.sig.returnType = ret) (hlocks : meth.locks = false) {pc : Nat} {H : Heap} {ls : Array Slot} (hdg : decode code pc = .ok (.ireturn, 1)) : W p l e room_1 s m #[Value.ref b] below meth c H [] 601024 7293033 (lw_Z below #[Value.ref b] s) (F0 m pc ls [.int 1]) := by
  intro T hT X
  obtain ⟨fs, hret, hrun, hended, hW, hframe⟩ := X.leave (v := some (.int 1)) (hlocks := hlocks) (fun h => by rw [hr] at h; cases h)
  have hmeth' : T.vm.method? m = some meth := X.method'
  refine ⟨T.setFrames fs, ?_, .returned (some (.int 1)), hrun, hended, rfl, ⟨_, rfl⟩, hW, hframe⟩
  jvm_step X.here [X.here.top, hx, hb, hdg, hmeth', hr, ret, narrow_b1]
  (try refine ⟨rfl, ?_⟩); (try refine ⟨rfl, ?_⟩)
  first | (intro acts; rw [hret _ acts rfl rfl rfl]) | rw [hret _ _ rfl rfl rfl]
  exact Steps.refl _
theorem ps_share : (parseMethodDescriptor y_Law_share.desc).map (fun d => d.parameters.length) = some 4 := by decide +kernel
theorem nI_ad (a c : Nat) : nI a + nI c = nI (a + c) := (Int32.ofNat_add a c).symm
theorem nI_c7 (k : Nat) : nI (7 * k) + 7 = nI (7 * (k + 1)) := nI_ad (7 * k) 7
theorem hin7 {k j L : Nat} (h : 7 * k + j < L ∧ L ≤ 3584) : vp_in (nI (7 * k) + nI j) L := by
  rw [nI_ad]; exact vp_in_nI h.1 (by omega)
theorem hgo {L k : Nat} (hL : L ≤ 3584) (hk : k ≤ 512) (h : ¬ Int32.ofNat L - 7 < nI (7 * k)) : 7 * k + 7 ≤ L := by
  rcases Nat.lt_or_ge L 7 with z | z
  · exfalso
    apply h
    have h1 : (Int32.ofNat L - 7).toInt < 0 := by
      have k : ∀ n : Fin 7, (Int32.ofNat n.val - 7).toInt < 0 := by decide
      exact k ⟨L, z⟩
    rw [Int32.lt_iff_toInt_lt, nI_toInt (by omega)]
    omega
  · have e : Int32.ofNat L - 7 = nI (L - 7) := by
      have : nI (L - 7) + nI 7 = nI L := by rw [nI_ad]; congr 1; omega
      show nI L - nI 7 = nI (L - 7)
      rw [← this, Int32.add_sub_cancel]
    rw [e, nI_ltI (by omega) (by omega)] at h
    omega
set_option maxHeartbeats 8000000 in
set_option maxRecDepth 100000 in
theorem whole_start {p : Program} {e : Env} {s : State} {m : MethodId} {below : List Frame} {meth : Method} {c : Code} (l : Launch) (hst : l.stackTraces = false) {b L : Nat} {xs : Nat → Int32} (hL : L ≤ 3584) (C0 : lw_At p s m meth c b L xs) : W p l e room_1 s m #[Value.ref b] below meth c s.heap [] 0 0 (lw_Z below #[Value.ref b] s) (entryFrame m ([Value.ref b] : List Value).toArray 8) := by
  obtain ⟨g, hg1, hK⟩ := law_K C0
  obtain ⟨hx, hb, hr, hml, hown, hts, hX, hbl, hlocks, hgv⟩ := C0
  have E : mm_C g p s m #[Value.ref b] c code "ExpectRowsLaw" := ⟨hx, hb, hown, fun w h => hts w (List.mem_filter.mp h).1, hK⟩
  have hbA : ¬ (fun q : Nat => g.1 ≤ q) b := by show ¬ g.1 ≤ b; rw [hg1]; exact Nat.not_le.mpr hbl
  have hfo : ∀ {N : mm_M} {H : Heap} {locs : List Loc}, mm_S g s N H locs → ∀ q ∈ locs, s.heap.size ≤ q.base := fun h q hq => by
    have k : g.1 ≤ q.base := h.2.2.2.2 q hq
    rw [hg1] at k
    exact k
  obtain ⟨M0, eM0⟩ : ∃ zz : mm_M, zz = fun _ => none := ⟨_, rfl⟩
  have hZ : mm_S g s M0 s.heap [] := ⟨⟨by rw [hg1]; exact Nat.le_refl _, fun a x h => by rw [eM0] at h; cases h⟩, by rw [hg1]; exact Nat.le_refl _, va_S.rf⟩
  have hl := lv_entry ([.ref b]) (n := 8) (Nat.le_of_ble_eq_true rfl)
  rw [lg_entry_eq]
  generalize (lg_sl ([.ref b]) ++ List.replicate (8 - (lg_sl ([.ref b])).length) Slot.unset).toArray = ls at hl ⊢
  have hl : lv_has ls 8 [(0, .ref b)] := hl
  refine mm_new 1 E hZ cl_X w_24 ni_X.1 ni_X.2 fs_X (Nat.le_of_ble_eq_true rfl) (Nat.le_of_ble_eq_true rfl) d_Law_law_0 (fun x H hBx hNx hZ => ?_)
  obtain ⟨M1, eM1⟩ : ∃ zz : mm_M, zz = mm_up M0 x (ob 1 0 [.null, .null, .null, .null, .null, .null, .long 0]) := ⟨_, rfl⟩
  have hZ : mm_S g s M1 H [] := by rw [eM1]; exact hZ
  have h2 := (congrFun eM1 x).trans (mm_self _ _ _)
  refine lv_dup hx hb d_Law_law_3 rfl ?_
  refine mm_callv (mm_runI (As := []) (rest := [.ref x]) E hZ hml hl.1 lk_Law_15 me_X_init in_X_init (c_X_init l g h2 (fun _ => 0) (fun _ => 0) (fun _ => 0) (fun _ _ => 0)) ⟨Nat.le_of_ble_eq_true rfl, Nat.le_of_ble_eq_true rfl⟩ rfl (Nat.le_of_ble_eq_true rfl) d_Law_law_4 ⟨Nat.le_of_ble_eq_true rfl, Nat.le_of_ble_eq_true rfl⟩) hZ (fun Ma H locs hp hZ => ?_)
  obtain ⟨rl, la, lf, yl, da, tl, lt, cn, bA, lA, dl, dA2, sA, ia, fa, hox, hRl, hHl, hTl, hCn, hDl, hIt, _⟩ := hp
  refine lv_astore_n (lv' := [(1, .ref x), (0, .ref b)]) hx hb d_Law_law_7 rfl hl (by decide) rfl (fun ls hl => ?_)
  refine mm_new 20 E hZ cl_Mod w_607 ni_Mod.1 ni_Mod.2 fs_Mod (Nat.le_of_ble_eq_true rfl) (Nat.le_of_ble_eq_true rfl) d_Law_law_8 (fun q H hBq hNq hZ => ?_)
  obtain ⟨M4, eM4⟩ : ∃ zz : mm_M, zz = mm_up Ma q (ob 20 9 [.int 0, .int 0, .null, .null, .null, .null, .null, .null, .null, .null, .null, .null, .null, .null, .null, .null, .int 0, .long 0, .int 0, .null, .null, .null, .null, .null, .int 0, .null]) := ⟨_, rfl⟩
  have hZ : mm_S g s M4 H locs := by rw [eM4]; exact hZ
  have h5 := (congrFun eM4 x).trans ((mm_ne _ _ (mm_apartN hox hNq)).trans hox)
  have h6 := (congrFun eM4 q).trans (mm_self _ _ _)
  refine lv_dup hx hb d_Law_law_11 rfl ?_
  refine mm_callv (mm_runI (As := []) (rest := [.ref q]) E hZ hml hl.1 lk_Law_18 me_Mod_init in_Mod_init (c_Mod_init l g h6) ⟨Nat.le_of_ble_eq_true rfl, Nat.le_of_ble_eq_true rfl⟩ rfl (Nat.le_of_ble_eq_true rfl) d_Law_law_12 ⟨Nat.le_of_ble_eq_true rfl, Nat.le_of_ble_eq_true rfl⟩) hZ (fun Mc H locs hp hZ => ?_)
  obtain ⟨ad, hRq⟩ := hp
  have k1 : ∀ u, u < 20 → mm_same u Ma Mc := fun u hu => mm_same.tr (by rw [eM4]; exact mm_same.new hNq _) (hRq.2 u (Or.inl hu))
  refine lv_astore_n (lv' := [(2, .ref q), (1, .ref x), (0, .ref b)]) hx hb d_Law_law_15 rfl hl (by decide) rfl (fun ls hl => ?_)
  refine lv_iconst (v := 1) hx hb d_Law_law_16 (by decide) ?_
  refine mm_newl 50 (t0 := 1) (cA := g.2.2 1) (N := 1) E hZ rfl w_84 (by decide) (by decide) (by decide) (Nat.le_of_ble_eq_true rfl) (Nat.le_of_ble_eq_true rfl) d_Law_law_17 (fun o3 H hBo hNo hZ => ?_)
  obtain ⟨M, eM⟩ : ∃ zz : mm_M, zz = mm_up Mc o3 (al 50 (g.2.2 1) 1 (fun _ => 0)) := ⟨_, rfl⟩
  have hZ : mm_S g s M H locs := by rw [eM]; exact hZ
  have k2 : ∀ u, mm_same u Mc M := fun u => by rw [eM]; exact mm_same.new hNo _
  have k3 : ∀ u, u < 20 → mm_same u Ma M := fun u hu => (k1 u hu).tr (k2 u)
  have ho3 : M o3 = some (al 50 (g.2.2 1) 1 (fun _ => 0)) := (congrFun eM o3).trans (mm_self _ _ _)
  have hSt0 : St g M x q o3 0 := st_new (k3 1 (by decide) _ _ hox) (hRl.kept (fun u hu => k3 u (by rcases hu with rfl | rfl | rfl <;> decide))) (hHl.kept (fun u hu => k3 u (by rcases hu with rfl | rfl <;> decide))) (hTl.kept (fun u hu => k3 u (by rcases hu with rfl | rfl | rfl <;> decide))) (hCn.kept (fun u hu => k3 u (by rcases hu with rfl | rfl | rfl <;> decide))) (hDl.kept (fun u hu => k3 u (by rcases hu with rfl | rfl | rfl <;> decide))) (hIt.kept (fun u hu => k3 u (by rcases hu with rfl | rfl <;> decide))) (hRq.1.kept (fun u _ _ => k2 u)) ho3
  clear hRq hox hRl hHl hTl hCn hDl hIt ho3 k1 k2 k3
  refine lv_astore_n (lv' := [(3, .ref o3), (2, .ref q), (1, .ref x), (0, .ref b)]) hx hb d_Law_law_19 rfl hl (by decide) rfl (fun ls hl => ?_)
  refine lv_iconst (v := 0) hx hb d_Law_law_20 (by decide) ?_
  refine lv_istore (lv' := [(4, .int 0), (3, .ref o3), (2, .ref q), (1, .ref x), (0, .ref b)]) hx hb d_Law_law_21 hl (by decide) rfl (fun ls hl => ?_)
  have loop : ∀ (n k : Nat) (M : mm_M) (H : Heap) (locs : List Loc) (ls : Array Slot), mm_S g s M H locs → k ≤ 512 → St g M x q o3 k → 513 ≤ k + n → lv_has ls 8 [(0, .ref b), (1, .ref x), (2, .ref q), (3, .ref o3), (4, .int (nI (7 * k)))] → W p l e room_1 s m #[Value.ref b] below meth c H locs (1000 + 421 * k) (60000 + 3710 * k) (lw_Z below #[Value.ref b] s) (F0 m 23 ls []) := by
    intro n
    induction n with
    | zero => exact fun k M H locs ls _ hk _ hfu _ => absurd hfu (by omega)
    | succ n ih =>
      intro k M H locs ls hZ hk hSt hfu hl
      refine lv_iload hx hb d_Law_law_23 (lv_at hl 4 rfl) ?_
      refine lv_aload_n hx hb d_Law_law_25 rfl (lv_at hl 0 rfl) ?_
      refine va_slen hx hb hX hbl hbA hZ.2.2 d_Law_law_26 ?_
      refine lv_bipush (v := 7) hx hb d_Law_law_27 (by decide) ?_
      refine lv_isub hx hb d_Law_law_29 ?_
      refine lv_icmp_gt (tgt := 720) hx hb d_Law_law_30 (by decide) (fun c30 => ?_) (fun c30 => ?_)
      · refine lv_iconst (v := 1) hx hb d_Law_law_720 (by decide) ?_
        refine va_forget (hfo hZ) ?_
        refine W.widen (k := 601024) (n := 7293033) (by omega) (by omega) ?_
        exact lw_ret hx hb hr hlocks d_Law_law_721
      · have hkL : 7 * k + 7 ≤ L := hgo hL hk c30
        have hk5 : k < 512 := by omega
        have hI0 : vp_in (nI (7 * k)) L := vp_in_nI (by omega) (by omega)
        have hI1 : vp_in (nI (7 * k) + 1) L := hin7 (j := 1) (by omega)
        have hI2 : vp_in (nI (7 * k) + 2) L := hin7 (j := 2) (by omega)
        have hI3 : vp_in (nI (7 * k) + 3) L := hin7 (j := 3) (by omega)
        have hI4 : vp_in (nI (7 * k) + 4) L := hin7 (j := 4) (by omega)
        have hI5 : vp_in (nI (7 * k) + 5) L := hin7 (j := 5) (by omega)
        have hI6 : vp_in (nI (7 * k) + 6) L := hin7 (j := 6) (by omega)
        have next : ∀ (M2 : mm_M) (H : Heap) (locs : List Loc) (kc ks : Nat) (ls : Array Slot), mm_S g s M2 H locs → St g M2 x q o3 (k + 1) → kc ≤ 1000 + 421 * (k + 1) → ks ≤ 60000 + 3710 * (k + 1) → lv_has ls 8 [(0, .ref b), (1, .ref x), (2, .ref q), (3, .ref o3), (4, .int (nI (7 * k)))] → W p l e room_1 s m #[Value.ref b] below meth c H locs (kc) (ks) (lw_Z below #[Value.ref b] s) (F0 m 714 ls []) := by
          intro M2 H locs kc ks ls hZ hSt2 hkc hks hl
          refine lv_iinc (v := (nI (7 * k)) + 7) (lv' := [(4, .int ((nI (7 * k)) + 7)), (0, .ref b), (1, .ref x), (2, .ref q), (3, .ref o3)]) hx hb d_Law_law_714 hl (k := 4) rfl rfl (by decide) rfl (fun ls hl => ?_)
          refine lv_goto (tgt := 23) hx hb d_Law_law_717 (by decide) ?_
          have e7 : nI (7 * k) + 7 = nI (7 * (k + 1)) := nI_c7 k
          rw [e7] at hl
          refine W.widen (k := 1000 + 421 * (k + 1)) (n := 60000 + 3710 * (k + 1)) hkc hks ?_
          exact ih (k + 1) M2 H locs ls hZ (by omega) hSt2 (by omega) (lv_sub hl [1, 2, 3, 4, 0] rfl)
        refine lv_aload_n hx hb d_Law_law_33 rfl (lv_at hl 0 rfl) ?_
        refine lv_iload hx hb d_Law_law_34 (lv_at hl 4 rfl) ?_
        refine va_sld hx hb hX hbl hbA hZ.2.2 hI0 d_Law_law_36 ?_
        refine lv_topi (fun a0 ea0 => ?_)
        refine lv_bipush (v := 15) hx hb d_Law_law_37 (by decide) ?_
        refine lv_iand hx hb d_Law_law_39 ?_
        obtain ⟨op, hop, eop⟩ := pk_andE a0 (m := 15) 4 rfl
        rw [eop]
        rcases (show op = 0 ∨ op = 1 ∨ op = 2 ∨ op = 3 ∨ op = 4 ∨ op = 5 ∨ op = 6 ∨ op = 7 ∨ op = 8 ∨ op = 9 ∨ op = 10 ∨ 10 < op by omega) with rfl | rfl | rfl | rfl | rfl | rfl | rfl | rfl | rfl | rfl | rfl | hop10
        · refine lv_tableIn (off := 60) (tgt := 100) hx hb d_Law_law_40 (by decide) (by decide) (by decide) (by decide) ?_
          refine lv_aload_n hx hb d_Law_law_100 rfl (lv_at hl 1 rfl) ?_
          refine lv_aload_n hx hb d_Law_law_101 rfl (lv_at hl 0 rfl) ?_
          refine lv_iload hx hb d_Law_law_102 (lv_at hl 4 rfl) ?_
          refine lv_iconst (v := 1) hx hb d_Law_law_104 (by decide) ?_
          refine lv_iadd hx hb d_Law_law_105 ?_
          refine va_sld hx hb hX hbl hbA hZ.2.2 hI1 d_Law_law_106 ?_
          refine lv_topi (fun a1 ea1 => ?_)
          refine lv_aload_n hx hb d_Law_law_107 rfl (lv_at hl 0 rfl) ?_
          refine lv_iload hx hb d_Law_law_108 (lv_at hl 4 rfl) ?_
          refine lv_iconst (v := 2) hx hb d_Law_law_110 (by decide) ?_
          refine lv_iadd hx hb d_Law_law_111 ?_
          refine va_sld hx hb hX hbl hbA hZ.2.2 hI2 d_Law_law_112 ?_
          refine lv_topi (fun a2 ea2 => ?_)
          refine lv_aload_n hx hb d_Law_law_113 rfl (lv_at hl 0 rfl) ?_
          refine lv_iload hx hb d_Law_law_114 (lv_at hl 4 rfl) ?_
          refine lv_iconst (v := 3) hx hb d_Law_law_116 (by decide) ?_
          refine lv_iadd hx hb d_Law_law_117 ?_
          refine va_sld hx hb hX hbl hbA hZ.2.2 hI3 d_Law_law_118 ?_
          refine lv_topi (fun a3 ea3 => ?_)
          refine lv_aload_n hx hb d_Law_law_119 rfl (lv_at hl 0 rfl) ?_
          refine lv_iload hx hb d_Law_law_120 (lv_at hl 4 rfl) ?_
          refine lv_iconst (v := 4) hx hb d_Law_law_122 (by decide) ?_
          refine lv_iadd hx hb d_Law_law_123 ?_
          refine va_sld hx hb hX hbl hbA hZ.2.2 hI4 d_Law_law_124 ?_
          refine lv_topi (fun a4 ea4 => ?_)
          refine lv_i2l hx hb d_Law_law_125 rfl ?_
          refine lv_bipush (v := 32) hx hb d_Law_law_126 (by decide) ?_
          refine lv_lshl hx hb d_Law_law_128 rfl ?_
          refine lv_aload_n hx hb d_Law_law_129 rfl (lv_at hl 0 rfl) ?_
          refine lv_iload hx hb d_Law_law_130 (lv_at hl 4 rfl) ?_
          refine lv_iconst (v := 5) hx hb d_Law_law_132 (by decide) ?_
          refine lv_iadd hx hb d_Law_law_133 ?_
          refine va_sld hx hb hX hbl hbA hZ.2.2 hI5 d_Law_law_134 ?_
          refine lv_topi (fun a5 ea5 => ?_)
          refine lv_i2l hx hb d_Law_law_135 rfl ?_
          refine lv_ldc2 (v := 4294967295) hx hb E.2.2.1 (E.2.2.2.1 _ w_784) d_Law_law_136 ?_
          refine lv_land hx hb d_Law_law_139 ?_
          refine lv_lor hx hb d_Law_law_140 ?_
          refine lv_topl (fun w0 ew0 => ?_)
          refine lv_aload_n hx hb d_Law_law_141 rfl (lv_at hl 0 rfl) ?_
          refine lv_iload hx hb d_Law_law_142 (lv_at hl 4 rfl) ?_
          refine lv_bipush (v := 6) hx hb d_Law_law_144 (by decide) ?_
          refine lv_iadd hx hb d_Law_law_146 ?_
          refine va_sld hx hb hX hbl hbA hZ.2.2 hI6 d_Law_law_147 ?_
          refine lv_topi (fun a6 ea6 => ?_)
          refine lv_if_eq (tgt := 155) hx hb d_Law_law_148 (by decide) (fun c148 => ?_) (fun c148 => ?_)
          · refine lv_iconst (v := 0) hx hb d_Law_law_155 (by decide) ?_
            obtain ⟨kc, ks, P, ⟨hkc, hks⟩, hP, hp0⟩ := p_rule (l := l) hSt a1 a2 a3 w0 bo_0
            obtain ⟨fsx, hox⟩ := hSt.x
            refine mm_calli (mm_runV (As := [.int a1, .int a2, .int a3, .long w0, .int 0]) (rest := []) E hZ hml hl.1 lk_Law_21 me_X_rule in_X_rule hP hox cl_X.1 ⟨Nat.le_of_ble_eq_true rfl, Nat.le_of_ble_eq_true rfl⟩ rfl (Nat.le_of_ble_eq_true rfl) d_Law_law_156 ⟨by show 1000 + 421 * k + kc ≤ 601024; omega, by show 60000 + 3710 * k + ks ≤ 7293033; omega⟩) hZ (fun r1 Mx H locs hp hZ => ?_)
            obtain ⟨⟨fsq, hoq⟩, P2, hP2, hp2⟩ := hp0 r1 Mx hp
            clear hp
            refine lv_pop hx hb d_Law_law_159 rfl ?_
            refine lv_aload_n hx hb d_Law_law_160 rfl (lv_at hl 2 rfl) ?_
            refine lv_aload_n hx hb d_Law_law_161 rfl (lv_at hl 0 rfl) ?_
            refine lv_iload hx hb d_Law_law_162 (lv_at hl 4 rfl) ?_
            refine lv_iconst (v := 1) hx hb d_Law_law_164 (by decide) ?_
            refine lv_iadd hx hb d_Law_law_165 ?_
            refine va_sld hx hb hX hbl hbA hZ.2.2 hI1 d_Law_law_166 ?_
            rw [← ea1]
            refine lv_aload_n hx hb d_Law_law_167 rfl (lv_at hl 0 rfl) ?_
            refine lv_iload hx hb d_Law_law_168 (lv_at hl 4 rfl) ?_
            refine lv_iconst (v := 2) hx hb d_Law_law_170 (by decide) ?_
            refine lv_iadd hx hb d_Law_law_171 ?_
            refine va_sld hx hb hX hbl hbA hZ.2.2 hI2 d_Law_law_172 ?_
            rw [← ea2]
            refine lv_aload_n hx hb d_Law_law_173 rfl (lv_at hl 0 rfl) ?_
            refine lv_iload hx hb d_Law_law_174 (lv_at hl 4 rfl) ?_
            refine lv_iconst (v := 3) hx hb d_Law_law_176 (by decide) ?_
            refine lv_iadd hx hb d_Law_law_177 ?_
            refine va_sld hx hb hX hbl hbA hZ.2.2 hI3 d_Law_law_178 ?_
            rw [← ea3]
            refine lv_aload_n hx hb d_Law_law_179 rfl (lv_at hl 0 rfl) ?_
            refine lv_iload hx hb d_Law_law_180 (lv_at hl 4 rfl) ?_
            refine lv_iconst (v := 4) hx hb d_Law_law_182 (by decide) ?_
            refine lv_iadd hx hb d_Law_law_183 ?_
            refine va_sld hx hb hX hbl hbA hZ.2.2 hI4 d_Law_law_184 ?_
            rw [← ea4]
            refine lv_i2l hx hb d_Law_law_185 rfl ?_
            refine lv_bipush (v := 32) hx hb d_Law_law_186 (by decide) ?_
            refine lv_lshl hx hb d_Law_law_188 rfl ?_
            refine lv_aload_n hx hb d_Law_law_189 rfl (lv_at hl 0 rfl) ?_
            refine lv_iload hx hb d_Law_law_190 (lv_at hl 4 rfl) ?_
            refine lv_iconst (v := 5) hx hb d_Law_law_192 (by decide) ?_
            refine lv_iadd hx hb d_Law_law_193 ?_
            refine va_sld hx hb hX hbl hbA hZ.2.2 hI5 d_Law_law_194 ?_
            rw [← ea5]
            refine lv_i2l hx hb d_Law_law_195 rfl ?_
            refine lv_ldc2 (v := 4294967295) hx hb E.2.2.1 (E.2.2.2.1 _ w_784) d_Law_law_196 ?_
            refine lv_land hx hb d_Law_law_199 ?_
            refine lv_lor hx hb d_Law_law_200 ?_
            rw [← ew0]
            refine lv_aload_n hx hb d_Law_law_201 rfl (lv_at hl 0 rfl) ?_
            refine lv_iload hx hb d_Law_law_202 (lv_at hl 4 rfl) ?_
            refine lv_bipush (v := 6) hx hb d_Law_law_204 (by decide) ?_
            refine lv_iadd hx hb d_Law_law_206 ?_
            refine va_sld hx hb hX hbl hbA hZ.2.2 hI6 d_Law_law_207 ?_
            rw [← ea6]
            refine lv_if_eq (tgt := 215) hx hb d_Law_law_208 (by decide) (fun c208 => ?_) (fun c208 => ?_)
            · refine lv_iconst (v := 0) hx hb d_Law_law_215 (by decide) ?_
              refine mm_calli (mm_runV (As := [.int a1, .int a2, .int a3, .long w0, .int 0]) (rest := []) E hZ hml hl.1 lk_Law_25 me_Mod_rule in_Mod_rule hP2 hoq cl_Mod.1 ⟨Nat.le_of_ble_eq_true rfl, Nat.le_of_ble_eq_true rfl⟩ rfl (Nat.le_of_ble_eq_true rfl) d_Law_law_216 ⟨by show 1000 + 421 * k + kc + 0 ≤ 601024; omega, by show 60000 + 3710 * k + ks + 0 ≤ 7293033; omega⟩) hZ (fun r2 My H locs hp hZ => ?_)
              obtain ⟨hSt2, heq⟩ := hp2 r2 My hp
              refine lv_pop hx hb d_Law_law_219 rfl ?_
              refine lv_goto (tgt := 714) hx hb d_Law_law_220 (by decide) ?_
              exact next My H locs _ _ ls hZ hSt2 (by show 1000 + 421 * k + kc + 0 ≤ _; omega) (by show 60000 + 3710 * k + ks + 0 ≤ _; omega) (lv_sub hl [0, 1, 2, 3, 4] rfl)
            · exact absurd c148 c208
          · refine lv_iconst (v := 1) hx hb d_Law_law_151 (by decide) ?_
            refine lv_goto (tgt := 156) hx hb d_Law_law_152 (by decide) ?_
            obtain ⟨kc, ks, P, ⟨hkc, hks⟩, hP, hp0⟩ := p_rule (l := l) hSt a1 a2 a3 w0 bo_1
            obtain ⟨fsx, hox⟩ := hSt.x
            refine mm_calli (mm_runV (As := [.int a1, .int a2, .int a3, .long w0, .int 1]) (rest := []) E hZ hml hl.1 lk_Law_21 me_X_rule in_X_rule hP hox cl_X.1 ⟨Nat.le_of_ble_eq_true rfl, Nat.le_of_ble_eq_true rfl⟩ rfl (Nat.le_of_ble_eq_true rfl) d_Law_law_156 ⟨by show 1000 + 421 * k + kc ≤ 601024; omega, by show 60000 + 3710 * k + ks ≤ 7293033; omega⟩) hZ (fun r1 Mx H locs hp hZ => ?_)
            obtain ⟨⟨fsq, hoq⟩, P2, hP2, hp2⟩ := hp0 r1 Mx hp
            clear hp
            refine lv_pop hx hb d_Law_law_159 rfl ?_
            refine lv_aload_n hx hb d_Law_law_160 rfl (lv_at hl 2 rfl) ?_
            refine lv_aload_n hx hb d_Law_law_161 rfl (lv_at hl 0 rfl) ?_
            refine lv_iload hx hb d_Law_law_162 (lv_at hl 4 rfl) ?_
            refine lv_iconst (v := 1) hx hb d_Law_law_164 (by decide) ?_
            refine lv_iadd hx hb d_Law_law_165 ?_
            refine va_sld hx hb hX hbl hbA hZ.2.2 hI1 d_Law_law_166 ?_
            rw [← ea1]
            refine lv_aload_n hx hb d_Law_law_167 rfl (lv_at hl 0 rfl) ?_
            refine lv_iload hx hb d_Law_law_168 (lv_at hl 4 rfl) ?_
            refine lv_iconst (v := 2) hx hb d_Law_law_170 (by decide) ?_
            refine lv_iadd hx hb d_Law_law_171 ?_
            refine va_sld hx hb hX hbl hbA hZ.2.2 hI2 d_Law_law_172 ?_
            rw [← ea2]
            refine lv_aload_n hx hb d_Law_law_173 rfl (lv_at hl 0 rfl) ?_
            refine lv_iload hx hb d_Law_law_174 (lv_at hl 4 rfl) ?_
            refine lv_iconst (v := 3) hx hb d_Law_law_176 (by decide) ?_
            refine lv_iadd hx hb d_Law_law_177 ?_
            refine va_sld hx hb hX hbl hbA hZ.2.2 hI3 d_Law_law_178 ?_
            rw [← ea3]
            refine lv_aload_n hx hb d_Law_law_179 rfl (lv_at hl 0 rfl) ?_
            refine lv_iload hx hb d_Law_law_180 (lv_at hl 4 rfl) ?_
            refine lv_iconst (v := 4) hx hb d_Law_law_182 (by decide) ?_
            refine lv_iadd hx hb d_Law_law_183 ?_
            refine va_sld hx hb hX hbl hbA hZ.2.2 hI4 d_Law_law_184 ?_
            rw [← ea4]
            refine lv_i2l hx hb d_Law_law_185 rfl ?_
            refine lv_bipush (v := 32) hx hb d_Law_law_186 (by decide) ?_
            refine lv_lshl hx hb d_Law_law_188 rfl ?_
            refine lv_aload_n hx hb d_Law_law_189 rfl (lv_at hl 0 rfl) ?_
            refine lv_iload hx hb d_Law_law_190 (lv_at hl 4 rfl) ?_
            refine lv_iconst (v := 5) hx hb d_Law_law_192 (by decide) ?_
            refine lv_iadd hx hb d_Law_law_193 ?_
            refine va_sld hx hb hX hbl hbA hZ.2.2 hI5 d_Law_law_194 ?_
            rw [← ea5]
            refine lv_i2l hx hb d_Law_law_195 rfl ?_
            refine lv_ldc2 (v := 4294967295) hx hb E.2.2.1 (E.2.2.2.1 _ w_784) d_Law_law_196 ?_
            refine lv_land hx hb d_Law_law_199 ?_
            refine lv_lor hx hb d_Law_law_200 ?_
            rw [← ew0]
            refine lv_aload_n hx hb d_Law_law_201 rfl (lv_at hl 0 rfl) ?_
            refine lv_iload hx hb d_Law_law_202 (lv_at hl 4 rfl) ?_
            refine lv_bipush (v := 6) hx hb d_Law_law_204 (by decide) ?_
            refine lv_iadd hx hb d_Law_law_206 ?_
            refine va_sld hx hb hX hbl hbA hZ.2.2 hI6 d_Law_law_207 ?_
            rw [← ea6]
            refine lv_if_eq (tgt := 215) hx hb d_Law_law_208 (by decide) (fun c208 => ?_) (fun c208 => ?_)
            · exact absurd c208 c148
            · refine lv_iconst (v := 1) hx hb d_Law_law_211 (by decide) ?_
              refine lv_goto (tgt := 216) hx hb d_Law_law_212 (by decide) ?_
              refine mm_calli (mm_runV (As := [.int a1, .int a2, .int a3, .long w0, .int 1]) (rest := []) E hZ hml hl.1 lk_Law_25 me_Mod_rule in_Mod_rule hP2 hoq cl_Mod.1 ⟨Nat.le_of_ble_eq_true rfl, Nat.le_of_ble_eq_true rfl⟩ rfl (Nat.le_of_ble_eq_true rfl) d_Law_law_216 ⟨by show 1000 + 421 * k + kc + 0 ≤ 601024; omega, by show 60000 + 3710 * k + ks + 0 ≤ 7293033; omega⟩) hZ (fun r2 My H locs hp hZ => ?_)
              obtain ⟨hSt2, heq⟩ := hp2 r2 My hp
              refine lv_pop hx hb d_Law_law_219 rfl ?_
              refine lv_goto (tgt := 714) hx hb d_Law_law_220 (by decide) ?_
              exact next My H locs _ _ ls hZ hSt2 (by show 1000 + 421 * k + kc + 0 ≤ _; omega) (by show 60000 + 3710 * k + ks + 0 ≤ _; omega) (lv_sub hl [0, 1, 2, 3, 4] rfl)
        · refine lv_tableIn (off := 183) (tgt := 223) hx hb d_Law_law_40 (by decide) (by decide) (by decide) (by decide) ?_
          refine lv_aload_n hx hb d_Law_law_223 rfl (lv_at hl 1 rfl) ?_
          refine lv_aload_n hx hb d_Law_law_224 rfl (lv_at hl 0 rfl) ?_
          refine lv_iload hx hb d_Law_law_225 (lv_at hl 4 rfl) ?_
          refine lv_iconst (v := 1) hx hb d_Law_law_227 (by decide) ?_
          refine lv_iadd hx hb d_Law_law_228 ?_
          refine va_sld hx hb hX hbl hbA hZ.2.2 hI1 d_Law_law_229 ?_
          refine lv_topi (fun a1 ea1 => ?_)
          refine lv_aload_n hx hb d_Law_law_230 rfl (lv_at hl 0 rfl) ?_
          refine lv_iload hx hb d_Law_law_231 (lv_at hl 4 rfl) ?_
          refine lv_iconst (v := 2) hx hb d_Law_law_233 (by decide) ?_
          refine lv_iadd hx hb d_Law_law_234 ?_
          refine va_sld hx hb hX hbl hbA hZ.2.2 hI2 d_Law_law_235 ?_
          refine lv_topi (fun a2 ea2 => ?_)
          refine lv_aload_n hx hb d_Law_law_236 rfl (lv_at hl 0 rfl) ?_
          refine lv_iload hx hb d_Law_law_237 (lv_at hl 4 rfl) ?_
          refine lv_iconst (v := 3) hx hb d_Law_law_239 (by decide) ?_
          refine lv_iadd hx hb d_Law_law_240 ?_
          refine va_sld hx hb hX hbl hbA hZ.2.2 hI3 d_Law_law_241 ?_
          refine lv_topi (fun a3 ea3 => ?_)
          refine lv_aload_n hx hb d_Law_law_242 rfl (lv_at hl 0 rfl) ?_
          refine lv_iload hx hb d_Law_law_243 (lv_at hl 4 rfl) ?_
          refine lv_iconst (v := 4) hx hb d_Law_law_245 (by decide) ?_
          refine lv_iadd hx hb d_Law_law_246 ?_
          refine va_sld hx hb hX hbl hbA hZ.2.2 hI4 d_Law_law_247 ?_
          refine lv_topi (fun a4 ea4 => ?_)
          refine lv_aload_n hx hb d_Law_law_248 rfl (lv_at hl 0 rfl) ?_
          refine lv_iload hx hb d_Law_law_249 (lv_at hl 4 rfl) ?_
          refine lv_iconst (v := 5) hx hb d_Law_law_251 (by decide) ?_
          refine lv_iadd hx hb d_Law_law_252 ?_
          refine va_sld hx hb hX hbl hbA hZ.2.2 hI5 d_Law_law_253 ?_
          refine lv_topi (fun a5 ea5 => ?_)
          refine lv_i2l hx hb d_Law_law_254 rfl ?_
          refine lv_bipush (v := 32) hx hb d_Law_law_255 (by decide) ?_
          refine lv_lshl hx hb d_Law_law_257 rfl ?_
          refine lv_aload_n hx hb d_Law_law_258 rfl (lv_at hl 0 rfl) ?_
          refine lv_iload hx hb d_Law_law_259 (lv_at hl 4 rfl) ?_
          refine lv_bipush (v := 6) hx hb d_Law_law_261 (by decide) ?_
          refine lv_iadd hx hb d_Law_law_263 ?_
          refine va_sld hx hb hX hbl hbA hZ.2.2 hI6 d_Law_law_264 ?_
          refine lv_topi (fun a6 ea6 => ?_)
          refine lv_i2l hx hb d_Law_law_265 rfl ?_
          refine lv_ldc2 (v := 4294967295) hx hb E.2.2.1 (E.2.2.2.1 _ w_784) d_Law_law_266 ?_
          refine lv_land hx hb d_Law_law_269 ?_
          refine lv_lor hx hb d_Law_law_270 ?_
          refine lv_topl (fun w0 ew0 => ?_)
          obtain ⟨kc, ks, P, ⟨hkc, hks⟩, hP, hp0⟩ := p_event (l := l) hSt hk5 a1 a2 a3 a4 w0
          obtain ⟨fsx, hox⟩ := hSt.x
          refine mm_calli (mm_runV (As := [.int a1, .int a2, .int a3, .int a4, .long w0]) (rest := []) E hZ hml hl.1 lk_Law_26 me_X_event in_X_event hP hox cl_X.1 ⟨Nat.le_of_ble_eq_true rfl, Nat.le_of_ble_eq_true rfl⟩ rfl (Nat.le_of_ble_eq_true rfl) d_Law_law_271 ⟨by show 1000 + 421 * k + kc ≤ 601024; omega, by show 60000 + 3710 * k + ks ≤ 7293033; omega⟩) hZ (fun r1 Mx H locs hp hZ => ?_)
          obtain ⟨⟨fsq, hoq⟩, P2, hP2, hp2⟩ := hp0 r1 Mx hp
          clear hp
          refine lv_pop hx hb d_Law_law_274 rfl ?_
          refine lv_aload_n hx hb d_Law_law_275 rfl (lv_at hl 2 rfl) ?_
          refine lv_aload_n hx hb d_Law_law_276 rfl (lv_at hl 0 rfl) ?_
          refine lv_iload hx hb d_Law_law_277 (lv_at hl 4 rfl) ?_
          refine lv_iconst (v := 1) hx hb d_Law_law_279 (by decide) ?_
          refine lv_iadd hx hb d_Law_law_280 ?_
          refine va_sld hx hb hX hbl hbA hZ.2.2 hI1 d_Law_law_281 ?_
          rw [← ea1]
          refine lv_aload_n hx hb d_Law_law_282 rfl (lv_at hl 0 rfl) ?_
          refine lv_iload hx hb d_Law_law_283 (lv_at hl 4 rfl) ?_
          refine lv_iconst (v := 2) hx hb d_Law_law_285 (by decide) ?_
          refine lv_iadd hx hb d_Law_law_286 ?_
          refine va_sld hx hb hX hbl hbA hZ.2.2 hI2 d_Law_law_287 ?_
          rw [← ea2]
          refine lv_aload_n hx hb d_Law_law_288 rfl (lv_at hl 0 rfl) ?_
          refine lv_iload hx hb d_Law_law_289 (lv_at hl 4 rfl) ?_
          refine lv_iconst (v := 3) hx hb d_Law_law_291 (by decide) ?_
          refine lv_iadd hx hb d_Law_law_292 ?_
          refine va_sld hx hb hX hbl hbA hZ.2.2 hI3 d_Law_law_293 ?_
          rw [← ea3]
          refine lv_aload_n hx hb d_Law_law_294 rfl (lv_at hl 0 rfl) ?_
          refine lv_iload hx hb d_Law_law_295 (lv_at hl 4 rfl) ?_
          refine lv_iconst (v := 4) hx hb d_Law_law_297 (by decide) ?_
          refine lv_iadd hx hb d_Law_law_298 ?_
          refine va_sld hx hb hX hbl hbA hZ.2.2 hI4 d_Law_law_299 ?_
          rw [← ea4]
          refine lv_aload_n hx hb d_Law_law_300 rfl (lv_at hl 0 rfl) ?_
          refine lv_iload hx hb d_Law_law_301 (lv_at hl 4 rfl) ?_
          refine lv_iconst (v := 5) hx hb d_Law_law_303 (by decide) ?_
          refine lv_iadd hx hb d_Law_law_304 ?_
          refine va_sld hx hb hX hbl hbA hZ.2.2 hI5 d_Law_law_305 ?_
          rw [← ea5]
          refine lv_i2l hx hb d_Law_law_306 rfl ?_
          refine lv_bipush (v := 32) hx hb d_Law_law_307 (by decide) ?_
          refine lv_lshl hx hb d_Law_law_309 rfl ?_
          refine lv_aload_n hx hb d_Law_law_310 rfl (lv_at hl 0 rfl) ?_
          refine lv_iload hx hb d_Law_law_311 (lv_at hl 4 rfl) ?_
          refine lv_bipush (v := 6) hx hb d_Law_law_313 (by decide) ?_
          refine lv_iadd hx hb d_Law_law_315 ?_
          refine va_sld hx hb hX hbl hbA hZ.2.2 hI6 d_Law_law_316 ?_
          rw [← ea6]
          refine lv_i2l hx hb d_Law_law_317 rfl ?_
          refine lv_ldc2 (v := 4294967295) hx hb E.2.2.1 (E.2.2.2.1 _ w_784) d_Law_law_318 ?_
          refine lv_land hx hb d_Law_law_321 ?_
          refine lv_lor hx hb d_Law_law_322 ?_
          rw [← ew0]
          refine mm_calli (mm_runV (As := [.int a1, .int a2, .int a3, .int a4, .long w0]) (rest := []) E hZ hml hl.1 lk_Law_30 me_Mod_event in_Mod_event hP2 hoq cl_Mod.1 ⟨Nat.le_of_ble_eq_true rfl, Nat.le_of_ble_eq_true rfl⟩ rfl (Nat.le_of_ble_eq_true rfl) d_Law_law_323 ⟨by show 1000 + 421 * k + kc + 0 ≤ 601024; omega, by show 60000 + 3710 * k + ks + 0 ≤ 7293033; omega⟩) hZ (fun r2 My H locs hp hZ => ?_)
          obtain ⟨hSt2, heq⟩ := hp2 r2 My hp
          refine lv_pop hx hb d_Law_law_326 rfl ?_
          refine lv_goto (tgt := 714) hx hb d_Law_law_327 (by decide) ?_
          exact next My H locs _ _ ls hZ hSt2 (by show 1000 + 421 * k + kc + 0 ≤ _; omega) (by show 60000 + 3710 * k + ks + 0 ≤ _; omega) (lv_sub hl [0, 1, 2, 3, 4] rfl)
        · refine lv_tableIn (off := 290) (tgt := 330) hx hb d_Law_law_40 (by decide) (by decide) (by decide) (by decide) ?_
          refine lv_aload_n hx hb d_Law_law_330 rfl (lv_at hl 1 rfl) ?_
          refine lv_aload_n hx hb d_Law_law_331 rfl (lv_at hl 0 rfl) ?_
          refine lv_iload hx hb d_Law_law_332 (lv_at hl 4 rfl) ?_
          refine lv_iconst (v := 1) hx hb d_Law_law_334 (by decide) ?_
          refine lv_iadd hx hb d_Law_law_335 ?_
          refine va_sld hx hb hX hbl hbA hZ.2.2 hI1 d_Law_law_336 ?_
          refine lv_topi (fun a1 ea1 => ?_)
          refine lv_i2l hx hb d_Law_law_337 rfl ?_
          refine lv_bipush (v := 32) hx hb d_Law_law_338 (by decide) ?_
          refine lv_lshl hx hb d_Law_law_340 rfl ?_
          refine lv_aload_n hx hb d_Law_law_341 rfl (lv_at hl 0 rfl) ?_
          refine lv_iload hx hb d_Law_law_342 (lv_at hl 4 rfl) ?_
          refine lv_iconst (v := 2) hx hb d_Law_law_344 (by decide) ?_
          refine lv_iadd hx hb d_Law_law_345 ?_
          refine va_sld hx hb hX hbl hbA hZ.2.2 hI2 d_Law_law_346 ?_
          refine lv_topi (fun a2 ea2 => ?_)
          refine lv_i2l hx hb d_Law_law_347 rfl ?_
          refine lv_ldc2 (v := 4294967295) hx hb E.2.2.1 (E.2.2.2.1 _ w_784) d_Law_law_348 ?_
          refine lv_land hx hb d_Law_law_351 ?_
          refine lv_lor hx hb d_Law_law_352 ?_
          refine lv_topl (fun w0 ew0 => ?_)
          obtain ⟨kc, ks, P, ⟨hkc, hks⟩, hP, hp0⟩ := p_tick (l := l) hSt hk5 w0
          obtain ⟨fsx, hox⟩ := hSt.x
          refine mm_calli (mm_runV (As := [.long w0]) (rest := []) E hZ hml hl.1 lk_Law_31 me_X_tick in_X_tick hP hox cl_X.1 ⟨Nat.le_of_ble_eq_true rfl, Nat.le_of_ble_eq_true rfl⟩ rfl (Nat.le_of_ble_eq_true rfl) d_Law_law_353 ⟨by show 1000 + 421 * k + kc ≤ 601024; omega, by show 60000 + 3710 * k + ks ≤ 7293033; omega⟩) hZ (fun r1 Mx H locs hp hZ => ?_)
          obtain ⟨⟨fsq, hoq⟩, P2, hP2, hp2⟩ := hp0 r1 Mx hp
          clear hp
          refine lv_pop hx hb d_Law_law_356 rfl ?_
          refine lv_aload_n hx hb d_Law_law_357 rfl (lv_at hl 2 rfl) ?_
          refine lv_aload_n hx hb d_Law_law_358 rfl (lv_at hl 0 rfl) ?_
          refine lv_iload hx hb d_Law_law_359 (lv_at hl 4 rfl) ?_
          refine lv_iconst (v := 1) hx hb d_Law_law_361 (by decide) ?_
          refine lv_iadd hx hb d_Law_law_362 ?_
          refine va_sld hx hb hX hbl hbA hZ.2.2 hI1 d_Law_law_363 ?_
          rw [← ea1]
          refine lv_i2l hx hb d_Law_law_364 rfl ?_
          refine lv_bipush (v := 32) hx hb d_Law_law_365 (by decide) ?_
          refine lv_lshl hx hb d_Law_law_367 rfl ?_
          refine lv_aload_n hx hb d_Law_law_368 rfl (lv_at hl 0 rfl) ?_
          refine lv_iload hx hb d_Law_law_369 (lv_at hl 4 rfl) ?_
          refine lv_iconst (v := 2) hx hb d_Law_law_371 (by decide) ?_
          refine lv_iadd hx hb d_Law_law_372 ?_
          refine va_sld hx hb hX hbl hbA hZ.2.2 hI2 d_Law_law_373 ?_
          rw [← ea2]
          refine lv_i2l hx hb d_Law_law_374 rfl ?_
          refine lv_ldc2 (v := 4294967295) hx hb E.2.2.1 (E.2.2.2.1 _ w_784) d_Law_law_375 ?_
          refine lv_land hx hb d_Law_law_378 ?_
          refine lv_lor hx hb d_Law_law_379 ?_
          rw [← ew0]
          refine mm_calli (mm_runV (As := [.long w0]) (rest := []) E hZ hml hl.1 lk_Law_35 me_Mod_tick in_Mod_tick hP2 hoq cl_Mod.1 ⟨Nat.le_of_ble_eq_true rfl, Nat.le_of_ble_eq_true rfl⟩ rfl (Nat.le_of_ble_eq_true rfl) d_Law_law_380 ⟨by show 1000 + 421 * k + kc + 0 ≤ 601024; omega, by show 60000 + 3710 * k + ks + 0 ≤ 7293033; omega⟩) hZ (fun r2 My H locs hp hZ => ?_)
          obtain ⟨hSt2, heq⟩ := hp2 r2 My hp
          refine lv_pop hx hb d_Law_law_383 rfl ?_
          refine lv_goto (tgt := 714) hx hb d_Law_law_384 (by decide) ?_
          exact next My H locs _ _ ls hZ hSt2 (by show 1000 + 421 * k + kc + 0 ≤ _; omega) (by show 60000 + 3710 * k + ks + 0 ≤ _; omega) (lv_sub hl [0, 1, 2, 3, 4] rfl)
        · refine lv_tableIn (off := 347) (tgt := 387) hx hb d_Law_law_40 (by decide) (by decide) (by decide) (by decide) ?_
          refine lv_aload_n hx hb d_Law_law_387 rfl (lv_at hl 1 rfl) ?_
          refine lv_aload_n hx hb d_Law_law_388 rfl (lv_at hl 0 rfl) ?_
          refine lv_iload hx hb d_Law_law_389 (lv_at hl 4 rfl) ?_
          refine lv_iconst (v := 1) hx hb d_Law_law_391 (by decide) ?_
          refine lv_iadd hx hb d_Law_law_392 ?_
          refine va_sld hx hb hX hbl hbA hZ.2.2 hI1 d_Law_law_393 ?_
          refine lv_topi (fun a1 ea1 => ?_)
          refine lv_aload_n hx hb d_Law_law_394 rfl (lv_at hl 0 rfl) ?_
          refine lv_iload hx hb d_Law_law_395 (lv_at hl 4 rfl) ?_
          refine lv_iconst (v := 2) hx hb d_Law_law_397 (by decide) ?_
          refine lv_iadd hx hb d_Law_law_398 ?_
          refine va_sld hx hb hX hbl hbA hZ.2.2 hI2 d_Law_law_399 ?_
          refine lv_topi (fun a2 ea2 => ?_)
          obtain ⟨kc, ks, P, ⟨hkc, hks⟩, hP, hp0⟩ := p_alarm (l := l) hSt hk5 a1 a2
          obtain ⟨fsx, hox⟩ := hSt.x
          refine mm_calli (mm_runV (As := [.int a1, .int a2]) (rest := []) E hZ hml hl.1 lk_Law_36 me_X_alarm in_X_alarm hP hox cl_X.1 ⟨Nat.le_of_ble_eq_true rfl, Nat.le_of_ble_eq_true rfl⟩ rfl (Nat.le_of_ble_eq_true rfl) d_Law_law_400 ⟨by show 1000 + 421 * k + kc ≤ 601024; omega, by show 60000 + 3710 * k + ks ≤ 7293033; omega⟩) hZ (fun r1 Mx H locs hp hZ => ?_)
          obtain ⟨⟨fsq, hoq⟩, P2, hP2, hp2⟩ := hp0 r1 Mx hp
          clear hp
          refine lv_pop hx hb d_Law_law_403 rfl ?_
          refine lv_aload_n hx hb d_Law_law_404 rfl (lv_at hl 2 rfl) ?_
          refine lv_aload_n hx hb d_Law_law_405 rfl (lv_at hl 0 rfl) ?_
          refine lv_iload hx hb d_Law_law_406 (lv_at hl 4 rfl) ?_
          refine lv_iconst (v := 1) hx hb d_Law_law_408 (by decide) ?_
          refine lv_iadd hx hb d_Law_law_409 ?_
          refine va_sld hx hb hX hbl hbA hZ.2.2 hI1 d_Law_law_410 ?_
          rw [← ea1]
          refine lv_aload_n hx hb d_Law_law_411 rfl (lv_at hl 0 rfl) ?_
          refine lv_iload hx hb d_Law_law_412 (lv_at hl 4 rfl) ?_
          refine lv_iconst (v := 2) hx hb d_Law_law_414 (by decide) ?_
          refine lv_iadd hx hb d_Law_law_415 ?_
          refine va_sld hx hb hX hbl hbA hZ.2.2 hI2 d_Law_law_416 ?_
          rw [← ea2]
          refine mm_calli (mm_runV (As := [.int a1, .int a2]) (rest := []) E hZ hml hl.1 lk_Law_40 me_Mod_alarm in_Mod_alarm hP2 hoq cl_Mod.1 ⟨Nat.le_of_ble_eq_true rfl, Nat.le_of_ble_eq_true rfl⟩ rfl (Nat.le_of_ble_eq_true rfl) d_Law_law_417 ⟨by show 1000 + 421 * k + kc + 0 ≤ 601024; omega, by show 60000 + 3710 * k + ks + 0 ≤ 7293033; omega⟩) hZ (fun r2 My H locs hp hZ => ?_)
          obtain ⟨hSt2, heq⟩ := hp2 r2 My hp
          refine lv_pop hx hb d_Law_law_420 rfl ?_
          refine lv_goto (tgt := 714) hx hb d_Law_law_421 (by decide) ?_
          exact next My H locs _ _ ls hZ hSt2 (by show 1000 + 421 * k + kc + 0 ≤ _; omega) (by show 60000 + 3710 * k + ks + 0 ≤ _; omega) (lv_sub hl [0, 1, 2, 3, 4] rfl)
        · refine lv_tableIn (off := 384) (tgt := 424) hx hb d_Law_law_40 (by decide) (by decide) (by decide) (by decide) ?_
          refine lv_aload_n hx hb d_Law_law_424 rfl (lv_at hl 1 rfl) ?_
          refine lv_aload_n hx hb d_Law_law_425 rfl (lv_at hl 0 rfl) ?_
          refine lv_iload hx hb d_Law_law_426 (lv_at hl 4 rfl) ?_
          refine lv_iconst (v := 1) hx hb d_Law_law_428 (by decide) ?_
          refine lv_iadd hx hb d_Law_law_429 ?_
          refine va_sld hx hb hX hbl hbA hZ.2.2 hI1 d_Law_law_430 ?_
          refine lv_topi (fun a1 ea1 => ?_)
          obtain ⟨kc, ks, P, ⟨hkc, hks⟩, hP, hp0⟩ := p_state (l := l) hSt a1
          obtain ⟨fsx, hox⟩ := hSt.x
          refine mm_calli (mm_runV (As := [.int a1]) (rest := []) E hZ hml hl.1 lk_Law_41 me_X_state in_X_state hP hox cl_X.1 ⟨Nat.le_of_ble_eq_true rfl, Nat.le_of_ble_eq_true rfl⟩ rfl (Nat.le_of_ble_eq_true rfl) d_Law_law_431 ⟨by show 1000 + 421 * k + kc ≤ 601024; omega, by show 60000 + 3710 * k + ks ≤ 7293033; omega⟩) hZ (fun r1 Mx H locs hp hZ => ?_)
          obtain ⟨⟨fsq, hoq⟩, P2, hP2, hp2⟩ := hp0 r1 Mx hp
          clear hp
          refine lv_pop hx hb d_Law_law_434 rfl ?_
          refine lv_aload_n hx hb d_Law_law_435 rfl (lv_at hl 2 rfl) ?_
          refine lv_aload_n hx hb d_Law_law_436 rfl (lv_at hl 0 rfl) ?_
          refine lv_iload hx hb d_Law_law_437 (lv_at hl 4 rfl) ?_
          refine lv_iconst (v := 1) hx hb d_Law_law_439 (by decide) ?_
          refine lv_iadd hx hb d_Law_law_440 ?_
          refine va_sld hx hb hX hbl hbA hZ.2.2 hI1 d_Law_law_441 ?_
          rw [← ea1]
          refine mm_calli (mm_runV (As := [.int a1]) (rest := []) E hZ hml hl.1 lk_Law_45 me_Mod_state in_Mod_state hP2 hoq cl_Mod.1 ⟨Nat.le_of_ble_eq_true rfl, Nat.le_of_ble_eq_true rfl⟩ rfl (Nat.le_of_ble_eq_true rfl) d_Law_law_442 ⟨by show 1000 + 421 * k + kc + 0 ≤ 601024; omega, by show 60000 + 3710 * k + ks + 0 ≤ 7293033; omega⟩) hZ (fun r2 My H locs hp hZ => ?_)
          obtain ⟨hSt2, heq⟩ := hp2 r2 My hp
          refine lv_pop hx hb d_Law_law_445 rfl ?_
          refine lv_goto (tgt := 714) hx hb d_Law_law_446 (by decide) ?_
          exact next My H locs _ _ ls hZ hSt2 (by show 1000 + 421 * k + kc + 0 ≤ _; omega) (by show 60000 + 3710 * k + ks + 0 ≤ _; omega) (lv_sub hl [0, 1, 2, 3, 4] rfl)
        · refine lv_tableIn (off := 409) (tgt := 449) hx hb d_Law_law_40 (by decide) (by decide) (by decide) (by decide) ?_
          refine lv_aload_n hx hb d_Law_law_449 rfl (lv_at hl 1 rfl) ?_
          refine lv_aload_n hx hb d_Law_law_450 rfl (lv_at hl 0 rfl) ?_
          refine lv_iload hx hb d_Law_law_451 (lv_at hl 4 rfl) ?_
          refine lv_iconst (v := 1) hx hb d_Law_law_453 (by decide) ?_
          refine lv_iadd hx hb d_Law_law_454 ?_
          refine va_sld hx hb hX hbl hbA hZ.2.2 hI1 d_Law_law_455 ?_
          refine lv_topi (fun a1 ea1 => ?_)
          refine lv_i2l hx hb d_Law_law_456 rfl ?_
          refine lv_bipush (v := 32) hx hb d_Law_law_457 (by decide) ?_
          refine lv_lshl hx hb d_Law_law_459 rfl ?_
          refine lv_aload_n hx hb d_Law_law_460 rfl (lv_at hl 0 rfl) ?_
          refine lv_iload hx hb d_Law_law_461 (lv_at hl 4 rfl) ?_
          refine lv_iconst (v := 2) hx hb d_Law_law_463 (by decide) ?_
          refine lv_iadd hx hb d_Law_law_464 ?_
          refine va_sld hx hb hX hbl hbA hZ.2.2 hI2 d_Law_law_465 ?_
          refine lv_topi (fun a2 ea2 => ?_)
          refine lv_i2l hx hb d_Law_law_466 rfl ?_
          refine lv_ldc2 (v := 4294967295) hx hb E.2.2.1 (E.2.2.2.1 _ w_784) d_Law_law_467 ?_
          refine lv_land hx hb d_Law_law_470 ?_
          refine lv_lor hx hb d_Law_law_471 ?_
          refine lv_topl (fun w0 ew0 => ?_)
          obtain ⟨kc, ks, P, ⟨hkc, hks⟩, hP, hp0⟩ := p_hol (l := l) hSt w0
          obtain ⟨fsx, hox⟩ := hSt.x
          refine mm_calli (mm_runV (As := [.long w0]) (rest := []) E hZ hml hl.1 lk_Law_46 me_X_holiday in_X_holiday hP hox cl_X.1 ⟨Nat.le_of_ble_eq_true rfl, Nat.le_of_ble_eq_true rfl⟩ rfl (Nat.le_of_ble_eq_true rfl) d_Law_law_472 ⟨by show 1000 + 421 * k + kc ≤ 601024; omega, by show 60000 + 3710 * k + ks ≤ 7293033; omega⟩) hZ (fun r1 Mx H locs hp hZ => ?_)
          obtain ⟨⟨fsq, hoq⟩, P2, hP2, hp2⟩ := hp0 r1 Mx hp
          clear hp
          refine lv_pop hx hb d_Law_law_475 rfl ?_
          refine lv_aload_n hx hb d_Law_law_476 rfl (lv_at hl 2 rfl) ?_
          refine lv_aload_n hx hb d_Law_law_477 rfl (lv_at hl 0 rfl) ?_
          refine lv_iload hx hb d_Law_law_478 (lv_at hl 4 rfl) ?_
          refine lv_iconst (v := 1) hx hb d_Law_law_480 (by decide) ?_
          refine lv_iadd hx hb d_Law_law_481 ?_
          refine va_sld hx hb hX hbl hbA hZ.2.2 hI1 d_Law_law_482 ?_
          rw [← ea1]
          refine lv_i2l hx hb d_Law_law_483 rfl ?_
          refine lv_bipush (v := 32) hx hb d_Law_law_484 (by decide) ?_
          refine lv_lshl hx hb d_Law_law_486 rfl ?_
          refine lv_aload_n hx hb d_Law_law_487 rfl (lv_at hl 0 rfl) ?_
          refine lv_iload hx hb d_Law_law_488 (lv_at hl 4 rfl) ?_
          refine lv_iconst (v := 2) hx hb d_Law_law_490 (by decide) ?_
          refine lv_iadd hx hb d_Law_law_491 ?_
          refine va_sld hx hb hX hbl hbA hZ.2.2 hI2 d_Law_law_492 ?_
          rw [← ea2]
          refine lv_i2l hx hb d_Law_law_493 rfl ?_
          refine lv_ldc2 (v := 4294967295) hx hb E.2.2.1 (E.2.2.2.1 _ w_784) d_Law_law_494 ?_
          refine lv_land hx hb d_Law_law_497 ?_
          refine lv_lor hx hb d_Law_law_498 ?_
          rw [← ew0]
          refine mm_calli (mm_runV (As := [.long w0]) (rest := []) E hZ hml hl.1 lk_Law_49 me_Mod_holiday in_Mod_holiday hP2 hoq cl_Mod.1 ⟨Nat.le_of_ble_eq_true rfl, Nat.le_of_ble_eq_true rfl⟩ rfl (Nat.le_of_ble_eq_true rfl) d_Law_law_499 ⟨by show 1000 + 421 * k + kc + 0 ≤ 601024; omega, by show 60000 + 3710 * k + ks + 0 ≤ 7293033; omega⟩) hZ (fun r2 My H locs hp hZ => ?_)
          obtain ⟨hSt2, heq⟩ := hp2 r2 My hp
          refine lv_pop hx hb d_Law_law_502 rfl ?_
          refine lv_goto (tgt := 714) hx hb d_Law_law_503 (by decide) ?_
          exact next My H locs _ _ ls hZ hSt2 (by show 1000 + 421 * k + kc + 0 ≤ _; omega) (by show 60000 + 3710 * k + ks + 0 ≤ _; omega) (lv_sub hl [0, 1, 2, 3, 4] rfl)
        · refine lv_tableIn (off := 466) (tgt := 506) hx hb d_Law_law_40 (by decide) (by decide) (by decide) (by decide) ?_
          refine lv_aload_n hx hb d_Law_law_506 rfl (lv_at hl 1 rfl) ?_
          refine lv_aload_n hx hb d_Law_law_507 rfl (lv_at hl 0 rfl) ?_
          refine lv_iload hx hb d_Law_law_508 (lv_at hl 4 rfl) ?_
          refine lv_iconst (v := 1) hx hb d_Law_law_510 (by decide) ?_
          refine lv_iadd hx hb d_Law_law_511 ?_
          refine va_sld hx hb hX hbl hbA hZ.2.2 hI1 d_Law_law_512 ?_
          refine lv_topi (fun a1 ea1 => ?_)
          refine lv_aload_n hx hb d_Law_law_513 rfl (lv_at hl 0 rfl) ?_
          refine lv_iload hx hb d_Law_law_514 (lv_at hl 4 rfl) ?_
          refine lv_iconst (v := 2) hx hb d_Law_law_516 (by decide) ?_
          refine lv_iadd hx hb d_Law_law_517 ?_
          refine va_sld hx hb hX hbl hbA hZ.2.2 hI2 d_Law_law_518 ?_
          refine lv_topi (fun a2 ea2 => ?_)
          refine lv_aload_n hx hb d_Law_law_519 rfl (lv_at hl 3 rfl) ?_
          obtain ⟨P, hP, hp0⟩ := p_share (l := l) hSt hk5 hst a1 a2
          refine mm_calli (mm_runSW (As := [.ref x, .int a1, .int a2, .ref o3]) (rest := []) E hZ hml hl.1 w_529 cw_share w_0 ⟨by decide, by decide, ps_share⟩ w_530 hP ⟨Nat.le_of_ble_eq_true rfl, Nat.le_of_ble_eq_true rfl⟩ rfl (Nat.le_of_ble_eq_true rfl) d_Law_law_520 ⟨by show 1000 + 421 * k + 1 ≤ 601024; omega, by show 60000 + 3710 * k + 6 ≤ 7293033; omega⟩) hZ (fun rk0 Mx H locs hp hZ => ?_)
          obtain ⟨⟨fsq, hoq⟩, P2, hP2, hp2⟩ := hp0 rk0 Mx hp
          clear hp
          refine lv_istore (lv' := [(5, .int rk0), (0, .ref b), (1, .ref x), (2, .ref q), (3, .ref o3), (4, .int (nI (7 * k)))]) hx hb d_Law_law_523 hl (by decide) rfl (fun ls hl => ?_)
          refine lv_aload_n hx hb d_Law_law_525 rfl (lv_at hl 3 rfl) ?_
          refine lv_aload_n hx hb d_Law_law_526 rfl (lv_at hl 1 rfl) ?_
          refine lv_iload hx hb d_Law_law_527 (lv_at hl 5 rfl) ?_
          refine lv_iconst (v := 1) hx hb d_Law_law_529 (by decide) ?_
          refine lv_iadd hx hb d_Law_law_530 ?_
          refine va_sld hx hb hX hbl hbA hZ.2.2 hI1 d_Law_law_531 ?_
          rw [← ea1]
          refine lv_aload_n hx hb d_Law_law_532 rfl (lv_at hl 1 rfl) ?_
          refine lv_iload hx hb d_Law_law_533 (lv_at hl 5 rfl) ?_
          refine lv_iconst (v := 2) hx hb d_Law_law_535 (by decide) ?_
          refine lv_iadd hx hb d_Law_law_536 ?_
          refine va_sld hx hb hX hbl hbA hZ.2.2 hI2 d_Law_law_537 ?_
          rw [← ea2]
          refine mm_calll (mm_runV (As := [.int a1, .int a2]) (rest := []) E hZ hml hl.1 lk_Law_55 me_Mod_share in_Mod_share hP2 hoq cl_Mod.1 ⟨Nat.le_of_ble_eq_true rfl, Nat.le_of_ble_eq_true rfl⟩ rfl (Nat.le_of_ble_eq_true rfl) d_Law_law_538 ⟨by show 1000 + 421 * k + 1 + 0 ≤ 601024; omega, by show 60000 + 3710 * k + 6 + 0 ≤ 7293033; omega⟩) hZ (fun r2 My H locs hp hZ => ?_)
          obtain ⟨hSt2, heq⟩ := hp2 r2 My hp
          refine lv_lstore (lv' := [(6, .long r2), (5, .int rk0), (0, .ref b), (1, .ref x), (2, .ref q), (3, .ref o3), (4, .int (nI (7 * k)))]) hx hb d_Law_law_541 hl (by decide) rfl (fun ls hl => ?_)
          refine lv_goto (tgt := 714) hx hb d_Law_law_543 (by decide) ?_
          exact next My H locs _ _ ls hZ hSt2 (by show 1000 + 421 * k + 1 + 0 ≤ _; omega) (by show 60000 + 3710 * k + 6 + 0 ≤ _; omega) (lv_sub hl [2, 3, 4, 5, 6] rfl)
        · refine lv_tableIn (off := 506) (tgt := 546) hx hb d_Law_law_40 (by decide) (by decide) (by decide) (by decide) ?_
          refine lv_aload_n hx hb d_Law_law_546 rfl (lv_at hl 1 rfl) ?_
          refine lv_aload_n hx hb d_Law_law_547 rfl (lv_at hl 0 rfl) ?_
          refine lv_iload hx hb d_Law_law_548 (lv_at hl 4 rfl) ?_
          refine lv_iconst (v := 1) hx hb d_Law_law_550 (by decide) ?_
          refine lv_iadd hx hb d_Law_law_551 ?_
          refine va_sld hx hb hX hbl hbA hZ.2.2 hI1 d_Law_law_552 ?_
          refine lv_topi (fun a1 ea1 => ?_)
          refine lv_aload_n hx hb d_Law_law_553 rfl (lv_at hl 0 rfl) ?_
          refine lv_iload hx hb d_Law_law_554 (lv_at hl 4 rfl) ?_
          refine lv_iconst (v := 2) hx hb d_Law_law_556 (by decide) ?_
          refine lv_iadd hx hb d_Law_law_557 ?_
          refine va_sld hx hb hX hbl hbA hZ.2.2 hI2 d_Law_law_558 ?_
          refine lv_topi (fun a2 ea2 => ?_)
          obtain ⟨kc, ks, P, ⟨hkc, hks⟩, hP, hp0⟩ := p_perc (l := l) hSt hk5 a1 a2
          obtain ⟨fsx, hox⟩ := hSt.x
          refine mm_calll (mm_runV (As := [.int a1, .int a2]) (rest := []) E hZ hml hl.1 lk_Law_56 me_X_percentile in_X_percentile hP hox cl_X.1 ⟨Nat.le_of_ble_eq_true rfl, Nat.le_of_ble_eq_true rfl⟩ rfl (Nat.le_of_ble_eq_true rfl) d_Law_law_559 ⟨by show 1000 + 421 * k + kc ≤ 601024; omega, by show 60000 + 3710 * k + ks ≤ 7293033; omega⟩) hZ (fun r1 Mx H locs hp hZ => ?_)
          obtain ⟨⟨fsq, hoq⟩, P2, hP2, hp2⟩ := hp0 r1 Mx hp
          clear hp
          refine lv_pop2_2 hx hb d_Law_law_562 rfl ?_
          refine lv_aload_n hx hb d_Law_law_563 rfl (lv_at hl 2 rfl) ?_
          refine lv_aload_n hx hb d_Law_law_564 rfl (lv_at hl 0 rfl) ?_
          refine lv_iload hx hb d_Law_law_565 (lv_at hl 4 rfl) ?_
          refine lv_iconst (v := 1) hx hb d_Law_law_567 (by decide) ?_
          refine lv_iadd hx hb d_Law_law_568 ?_
          refine va_sld hx hb hX hbl hbA hZ.2.2 hI1 d_Law_law_569 ?_
          rw [← ea1]
          refine lv_aload_n hx hb d_Law_law_570 rfl (lv_at hl 0 rfl) ?_
          refine lv_iload hx hb d_Law_law_571 (lv_at hl 4 rfl) ?_
          refine lv_iconst (v := 2) hx hb d_Law_law_573 (by decide) ?_
          refine lv_iadd hx hb d_Law_law_574 ?_
          refine va_sld hx hb hX hbl hbA hZ.2.2 hI2 d_Law_law_575 ?_
          rw [← ea2]
          refine mm_calll (mm_runV (As := [.int a1, .int a2]) (rest := []) E hZ hml hl.1 lk_Law_59 me_Mod_percentile in_Mod_percentile hP2 hoq cl_Mod.1 ⟨Nat.le_of_ble_eq_true rfl, Nat.le_of_ble_eq_true rfl⟩ rfl (Nat.le_of_ble_eq_true rfl) d_Law_law_576 ⟨by show 1000 + 421 * k + kc + 0 ≤ 601024; omega, by show 60000 + 3710 * k + ks + 0 ≤ 7293033; omega⟩) hZ (fun r2 My H locs hp hZ => ?_)
          obtain ⟨hSt2, heq⟩ := hp2 r2 My hp
          refine lv_pop2_2 hx hb d_Law_law_579 rfl ?_
          refine lv_goto (tgt := 714) hx hb d_Law_law_580 (by decide) ?_
          exact next My H locs _ _ ls hZ hSt2 (by show 1000 + 421 * k + kc + 0 ≤ _; omega) (by show 60000 + 3710 * k + ks + 0 ≤ _; omega) (lv_sub hl [0, 1, 2, 3, 4] rfl)
        · refine lv_tableIn (off := 543) (tgt := 583) hx hb d_Law_law_40 (by decide) (by decide) (by decide) (by decide) ?_
          refine lv_aload_n hx hb d_Law_law_583 rfl (lv_at hl 1 rfl) ?_
          refine lv_aload_n hx hb d_Law_law_584 rfl (lv_at hl 0 rfl) ?_
          refine lv_iload hx hb d_Law_law_585 (lv_at hl 4 rfl) ?_
          refine lv_iconst (v := 1) hx hb d_Law_law_587 (by decide) ?_
          refine lv_iadd hx hb d_Law_law_588 ?_
          refine va_sld hx hb hX hbl hbA hZ.2.2 hI1 d_Law_law_589 ?_
          refine lv_topi (fun a1 ea1 => ?_)
          refine lv_aload_n hx hb d_Law_law_590 rfl (lv_at hl 0 rfl) ?_
          refine lv_iload hx hb d_Law_law_591 (lv_at hl 4 rfl) ?_
          refine lv_iconst (v := 2) hx hb d_Law_law_593 (by decide) ?_
          refine lv_iadd hx hb d_Law_law_594 ?_
          refine va_sld hx hb hX hbl hbA hZ.2.2 hI2 d_Law_law_595 ?_
          refine lv_topi (fun a2 ea2 => ?_)
          refine lv_i2l hx hb d_Law_law_596 rfl ?_
          refine lv_bipush (v := 32) hx hb d_Law_law_597 (by decide) ?_
          refine lv_lshl hx hb d_Law_law_599 rfl ?_
          refine lv_aload_n hx hb d_Law_law_600 rfl (lv_at hl 0 rfl) ?_
          refine lv_iload hx hb d_Law_law_601 (lv_at hl 4 rfl) ?_
          refine lv_iconst (v := 3) hx hb d_Law_law_603 (by decide) ?_
          refine lv_iadd hx hb d_Law_law_604 ?_
          refine va_sld hx hb hX hbl hbA hZ.2.2 hI3 d_Law_law_605 ?_
          refine lv_topi (fun a3 ea3 => ?_)
          refine lv_i2l hx hb d_Law_law_606 rfl ?_
          refine lv_ldc2 (v := 4294967295) hx hb E.2.2.1 (E.2.2.2.1 _ w_784) d_Law_law_607 ?_
          refine lv_land hx hb d_Law_law_610 ?_
          refine lv_lor hx hb d_Law_law_611 ?_
          refine lv_topl (fun w0 ew0 => ?_)
          obtain ⟨kc, ks, P, ⟨hkc, hks⟩, hP, hp0⟩ := p_found (l := l) hSt a1 w0
          obtain ⟨fsx, hox⟩ := hSt.x
          refine mm_calli (mm_runV (As := [.int a1, .long w0]) (rest := []) E hZ hml hl.1 lk_Law_60 me_X_found in_X_found hP hox cl_X.1 ⟨Nat.le_of_ble_eq_true rfl, Nat.le_of_ble_eq_true rfl⟩ rfl (Nat.le_of_ble_eq_true rfl) d_Law_law_612 ⟨by show 1000 + 421 * k + kc ≤ 601024; omega, by show 60000 + 3710 * k + ks ≤ 7293033; omega⟩) hZ (fun r1 Mx H locs hp hZ => ?_)
          obtain ⟨⟨fsq, hoq⟩, P2, hP2, hp2⟩ := hp0 r1 Mx hp
          clear hp
          refine lv_pop hx hb d_Law_law_615 rfl ?_
          refine lv_aload_n hx hb d_Law_law_616 rfl (lv_at hl 2 rfl) ?_
          refine lv_aload_n hx hb d_Law_law_617 rfl (lv_at hl 0 rfl) ?_
          refine lv_iload hx hb d_Law_law_618 (lv_at hl 4 rfl) ?_
          refine lv_iconst (v := 1) hx hb d_Law_law_620 (by decide) ?_
          refine lv_iadd hx hb d_Law_law_621 ?_
          refine va_sld hx hb hX hbl hbA hZ.2.2 hI1 d_Law_law_622 ?_
          rw [← ea1]
          refine lv_aload_n hx hb d_Law_law_623 rfl (lv_at hl 0 rfl) ?_
          refine lv_iload hx hb d_Law_law_624 (lv_at hl 4 rfl) ?_
          refine lv_iconst (v := 2) hx hb d_Law_law_626 (by decide) ?_
          refine lv_iadd hx hb d_Law_law_627 ?_
          refine va_sld hx hb hX hbl hbA hZ.2.2 hI2 d_Law_law_628 ?_
          rw [← ea2]
          refine lv_i2l hx hb d_Law_law_629 rfl ?_
          refine lv_bipush (v := 32) hx hb d_Law_law_630 (by decide) ?_
          refine lv_lshl hx hb d_Law_law_632 rfl ?_
          refine lv_aload_n hx hb d_Law_law_633 rfl (lv_at hl 0 rfl) ?_
          refine lv_iload hx hb d_Law_law_634 (lv_at hl 4 rfl) ?_
          refine lv_iconst (v := 3) hx hb d_Law_law_636 (by decide) ?_
          refine lv_iadd hx hb d_Law_law_637 ?_
          refine va_sld hx hb hX hbl hbA hZ.2.2 hI3 d_Law_law_638 ?_
          rw [← ea3]
          refine lv_i2l hx hb d_Law_law_639 rfl ?_
          refine lv_ldc2 (v := 4294967295) hx hb E.2.2.1 (E.2.2.2.1 _ w_784) d_Law_law_640 ?_
          refine lv_land hx hb d_Law_law_643 ?_
          refine lv_lor hx hb d_Law_law_644 ?_
          rw [← ew0]
          refine mm_calli (mm_runV (As := [.int a1, .long w0]) (rest := []) E hZ hml hl.1 lk_Law_64 me_Mod_found in_Mod_found hP2 hoq cl_Mod.1 ⟨Nat.le_of_ble_eq_true rfl, Nat.le_of_ble_eq_true rfl⟩ rfl (Nat.le_of_ble_eq_true rfl) d_Law_law_645 ⟨by show 1000 + 421 * k + kc + 0 ≤ 601024; omega, by show 60000 + 3710 * k + ks + 0 ≤ 7293033; omega⟩) hZ (fun r2 My H locs hp hZ => ?_)
          obtain ⟨hSt2, heq⟩ := hp2 r2 My hp
          refine lv_pop hx hb d_Law_law_648 rfl ?_
          refine lv_goto (tgt := 714) hx hb d_Law_law_649 (by decide) ?_
          exact next My H locs _ _ ls hZ hSt2 (by show 1000 + 421 * k + kc + 0 ≤ _; omega) (by show 60000 + 3710 * k + ks + 0 ≤ _; omega) (lv_sub hl [0, 1, 2, 3, 4] rfl)
        · refine lv_tableIn (off := 612) (tgt := 652) hx hb d_Law_law_40 (by decide) (by decide) (by decide) (by decide) ?_
          refine lv_aload_n hx hb d_Law_law_652 rfl (lv_at hl 1 rfl) ?_
          refine lv_aload_n hx hb d_Law_law_653 rfl (lv_at hl 0 rfl) ?_
          refine lv_iload hx hb d_Law_law_654 (lv_at hl 4 rfl) ?_
          refine lv_iconst (v := 1) hx hb d_Law_law_656 (by decide) ?_
          refine lv_iadd hx hb d_Law_law_657 ?_
          refine va_sld hx hb hX hbl hbA hZ.2.2 hI1 d_Law_law_658 ?_
          refine lv_topi (fun a1 ea1 => ?_)
          refine lv_aload_n hx hb d_Law_law_659 rfl (lv_at hl 0 rfl) ?_
          refine lv_iload hx hb d_Law_law_660 (lv_at hl 4 rfl) ?_
          refine lv_iconst (v := 2) hx hb d_Law_law_662 (by decide) ?_
          refine lv_iadd hx hb d_Law_law_663 ?_
          refine va_sld hx hb hX hbl hbA hZ.2.2 hI2 d_Law_law_664 ?_
          refine lv_topi (fun a2 ea2 => ?_)
          obtain ⟨kc, ks, P, ⟨hkc, hks⟩, hP, hp0⟩ := p_cluster (l := l) hSt hk5 a1 a2
          obtain ⟨fsx, hox⟩ := hSt.x
          refine mm_calli (mm_runV (As := [.int a1, .int a2]) (rest := []) E hZ hml hl.1 lk_Law_65 me_X_cluster in_X_cluster hP hox cl_X.1 ⟨Nat.le_of_ble_eq_true rfl, Nat.le_of_ble_eq_true rfl⟩ rfl (Nat.le_of_ble_eq_true rfl) d_Law_law_665 ⟨by show 1000 + 421 * k + kc ≤ 601024; omega, by show 60000 + 3710 * k + ks ≤ 7293033; omega⟩) hZ (fun r1 Mx H locs hp hZ => ?_)
          obtain ⟨⟨fsq, hoq⟩, P2, hP2, hp2⟩ := hp0 r1 Mx hp
          clear hp
          refine lv_aload_n hx hb d_Law_law_668 rfl (lv_at hl 2 rfl) ?_
          refine lv_aload_n hx hb d_Law_law_669 rfl (lv_at hl 0 rfl) ?_
          refine lv_iload hx hb d_Law_law_670 (lv_at hl 4 rfl) ?_
          refine lv_iconst (v := 1) hx hb d_Law_law_672 (by decide) ?_
          refine lv_iadd hx hb d_Law_law_673 ?_
          refine va_sld hx hb hX hbl hbA hZ.2.2 hI1 d_Law_law_674 ?_
          rw [← ea1]
          refine lv_aload_n hx hb d_Law_law_675 rfl (lv_at hl 0 rfl) ?_
          refine lv_iload hx hb d_Law_law_676 (lv_at hl 4 rfl) ?_
          refine lv_iconst (v := 2) hx hb d_Law_law_678 (by decide) ?_
          refine lv_iadd hx hb d_Law_law_679 ?_
          refine va_sld hx hb hX hbl hbA hZ.2.2 hI2 d_Law_law_680 ?_
          rw [← ea2]
          refine mm_calli (mm_runV (As := [.int a1, .int a2]) (rest := [.int r1]) E hZ hml hl.1 lk_Law_68 me_Mod_cluster in_Mod_cluster hP2 hoq cl_Mod.1 ⟨Nat.le_of_ble_eq_true rfl, Nat.le_of_ble_eq_true rfl⟩ rfl (Nat.le_of_ble_eq_true rfl) d_Law_law_681 ⟨by show 1000 + 421 * k + kc + 0 ≤ 601024; omega, by show 60000 + 3710 * k + ks + 0 ≤ 7293033; omega⟩) hZ (fun r2 My H locs hp hZ => ?_)
          obtain ⟨hSt2, heq⟩ := hp2 r2 My hp
          refine lv_icmp_eq (tgt := 714) hx hb d_Law_law_684 (by decide) (fun c684 => ?_) (fun c684 => ?_)
          · exact next My H locs _ _ ls hZ hSt2 (by show 1000 + 421 * k + kc + 0 ≤ _; omega) (by show 60000 + 3710 * k + ks + 0 ≤ _; omega) (lv_sub hl [0, 1, 2, 3, 4] rfl)
          · exact absurd heq c684
        · refine lv_tableIn (off := 649) (tgt := 689) hx hb d_Law_law_40 (by decide) (by decide) (by decide) (by decide) ?_
          refine lv_aload_n hx hb d_Law_law_689 rfl (lv_at hl 1 rfl) ?_
          refine lv_aload_n hx hb d_Law_law_690 rfl (lv_at hl 0 rfl) ?_
          refine lv_iload hx hb d_Law_law_691 (lv_at hl 4 rfl) ?_
          refine lv_iconst (v := 1) hx hb d_Law_law_693 (by decide) ?_
          refine lv_iadd hx hb d_Law_law_694 ?_
          refine va_sld hx hb hX hbl hbA hZ.2.2 hI1 d_Law_law_695 ?_
          refine lv_topi (fun a1 ea1 => ?_)
          obtain ⟨kc, ks, P, ⟨hkc, hks⟩, hP, hp0⟩ := p_failing (l := l) hSt a1
          obtain ⟨fsx, hox⟩ := hSt.x
          refine mm_calli (mm_runV (As := [.int a1]) (rest := []) E hZ hml hl.1 lk_Law_69 me_X_failing in_X_failing hP hox cl_X.1 ⟨Nat.le_of_ble_eq_true rfl, Nat.le_of_ble_eq_true rfl⟩ rfl (Nat.le_of_ble_eq_true rfl) d_Law_law_696 ⟨by show 1000 + 421 * k + kc ≤ 601024; omega, by show 60000 + 3710 * k + ks ≤ 7293033; omega⟩) hZ (fun r1 Mx H locs hp hZ => ?_)
          obtain ⟨⟨fsq, hoq⟩, P2, hP2, hp2⟩ := hp0 r1 Mx hp
          clear hp
          refine lv_pop hx hb d_Law_law_699 rfl ?_
          refine lv_aload_n hx hb d_Law_law_700 rfl (lv_at hl 2 rfl) ?_
          refine lv_aload_n hx hb d_Law_law_701 rfl (lv_at hl 0 rfl) ?_
          refine lv_iload hx hb d_Law_law_702 (lv_at hl 4 rfl) ?_
          refine lv_iconst (v := 1) hx hb d_Law_law_704 (by decide) ?_
          refine lv_iadd hx hb d_Law_law_705 ?_
          refine va_sld hx hb hX hbl hbA hZ.2.2 hI1 d_Law_law_706 ?_
          rw [← ea1]
          refine mm_calli (mm_runV (As := [.int a1]) (rest := []) E hZ hml hl.1 lk_Law_72 me_Mod_failing in_Mod_failing hP2 hoq cl_Mod.1 ⟨Nat.le_of_ble_eq_true rfl, Nat.le_of_ble_eq_true rfl⟩ rfl (Nat.le_of_ble_eq_true rfl) d_Law_law_707 ⟨by show 1000 + 421 * k + kc + 0 ≤ 601024; omega, by show 60000 + 3710 * k + ks + 0 ≤ 7293033; omega⟩) hZ (fun r2 My H locs hp hZ => ?_)
          obtain ⟨hSt2, heq⟩ := hp2 r2 My hp
          refine lv_pop hx hb d_Law_law_710 rfl ?_
          refine lv_goto (tgt := 714) hx hb d_Law_law_711 (by decide) ?_
          exact next My H locs _ _ ls hZ hSt2 (by show 1000 + 421 * k + kc + 0 ≤ _; omega) (by show 60000 + 3710 * k + ks + 0 ≤ _; omega) (lv_sub hl [0, 1, 2, 3, 4] rfl)
        · refine lv_tableOut (tgt := 714) hx hb d_Law_law_40 (Or.inr (by rw [nI_toInt (by omega)]; omega)) (by decide) ?_
          exact next M H locs _ _ ls hZ hSt.more (by omega) (by omega) (lv_sub hl [0, 1, 2, 3, 4] rfl)
  refine W.widen (k := 1000 + 421 * 0) (n := 60000 + 3710 * 0) (Nat.le_of_ble_eq_true rfl) (Nat.le_of_ble_eq_true rfl) ?_
  exact loop 513 0 M H locs ls hZ (by decide) hSt0 (by decide) (lv_sub hl [4, 3, 2, 1, 0] rfl)
