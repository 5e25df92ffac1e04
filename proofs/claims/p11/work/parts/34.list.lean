/-! JAVA's ArrayList: its methods by contract. Al: a list (tag t) of c elements with room for n (n = 0: nothing made yet) -/
def alN (n : Nat) : Nat := if n = 0 then 10 else n + n / 2
def elOk (M : mm_M) (c : Nat) (ad : Nat → Nat) : Prop := ∀ i, i < c → ∃ (tv ci : Nat) (vs : List Value) (r : vw_C), M (ad i) = some (ob tv ci vs) ∧ classes[ci]? = some r ∧ Cond.castable r.1 "java/lang/Object" ∈ NW
def Al (g : mm_G) (M : mm_M) (t la c n : Nat) (ad : Nat → Nat) : Prop := ∃ (mo : Int32) (ea : Nat), M la = some (ob t 10 [.int mo, .ref ea, .int (nI c)]) ∧ ((n = 0 ∧ c = 0 ∧ ea = g_df g) ∨ (10 ≤ n ∧ n < 2 ^ 20 ∧ c ≤ n ∧ ∃ f, M ea = some (aq t (g.2.2 4) n f) ∧ (∀ i, i < c → f i = some (ad i)) ∧ ∀ i, c ≤ i → f i = none))
set_option maxHeartbeats 4000000 in
set_option maxRecDepth 100000 in
theorem c_AbC_init (l : Launch) (g : mm_G) {M0 : mm_M} (la : Nat) : Cv l g y_AbC_init b_AbC_init 1 (rk 1 20 0 0) M0 [.ref la] (fun M' => M' = M0) := by
  refine mm_enter (by decide) (Nat.le_of_ble_eq_true rfl) (fun pG eV s m args below meth cdx ls Q E hml hr hlk hnm hZ hl eQ => ?_)
  have hx := E.1
  have hb := E.2.1
  have hl : lv_has ls 1 [(0, .ref la)] := hl
  refine lv_aload_n hx hb d_AbC_init_0 rfl (lv_at hl 0 rfl) ?_
  refine mm_objI E hml hl.1 w_49 w_30 w_31 (Nat.le_of_ble_eq_true rfl) (Nat.le_of_ble_eq_true rfl) d_AbC_init_1 ?_
  exact mm_vret E hr hlk eQ hZ d_AbC_init_4 ⟨rfl, rfl⟩
set_option maxHeartbeats 4000000 in
set_option maxRecDepth 100000 in
theorem c_AbL_init (l : Launch) (g : mm_G) {M0 : mm_M} {la t : Nat} (ht : t ≠ 0) (h : M0 la = some (ob t 10 [.int 0, .null, .int 0])) : Cv l g y_AbL_init b_AbL_init 1 (rk 2 40 0 0) M0 [.ref la] (fun M' => M' = mm_up M0 la (ob t 10 [.int 0, .null, .int 0])) := by
  refine mm_enter (by decide) (Nat.le_of_ble_eq_true rfl) (fun pG eV s m args below meth cdx ls Q E hml hr hlk hnm hZ hl eQ => ?_)
  have hx := E.1
  have hb := E.2.1
  have hl : lv_has ls 1 [(0, .ref la)] := hl
  refine lv_aload_n hx hb d_AbL_init_0 rfl (lv_at hl 0 rfl) ?_
  refine mm_callv (mm_runI (As := []) (rest := []) E hZ hml hl.1 lk_AbL_1 me_AbC_init in_AbC_init (c_AbC_init l g la) ⟨Nat.le_of_ble_eq_true rfl, Nat.le_of_ble_eq_true rfl⟩ rfl (Nat.le_of_ble_eq_true rfl) d_AbL_init_1 ⟨Nat.le_of_ble_eq_true rfl, Nat.le_of_ble_eq_true rfl⟩) hZ (fun M1 H locs hp hZ => ?_)
  rw [hp] at hZ
  refine lv_aload_n hx hb d_AbL_init_4 rfl (lv_at hl 0 rfl) ?_
  refine lv_iconst (v := 0) hx hb d_AbL_init_5 (by decide) ?_
  refine mm_put E hZ cl_AL fl_AbL_7 (by decide) rfl h ht rfl rfl (Nat.le_of_ble_eq_true rfl) d_AbL_init_6 (fun H locs hZ => ?_)
  obtain ⟨M2, eM2⟩ : ∃ zz : mm_M, zz = mm_up M0 la (ob t 10 [.int 0, .null, .int 0]) := ⟨_, rfl⟩
  have hZ : mm_S g s M2 H locs := by rw [eM2]; exact hZ
  have h3 := (congrFun eM2 la).trans (mm_self _ _ _)
  exact mm_vret E hr hlk eQ hZ d_AbL_init_9 ⟨rfl, eM2⟩
set_option maxHeartbeats 4000000 in
set_option maxRecDepth 100000 in
theorem c_AL_init (l : Launch) (g : mm_G) {M0 : mm_M} {la t : Nat} (ht : t ≠ 0) (h : M0 la = some (ob t 10 [.int 0, .null, .int 0])) (ad : Nat → Nat) : Cv l g y_AL_init b_AL_init 1 (rk 3 60 0 0) M0 [.ref la] (fun M' => Al g M' t la 0 0 ad ∧ ∀ u, u ≠ t → mm_same u M0 M') := by
  refine mm_enter (by decide) (Nat.le_of_ble_eq_true rfl) (fun pG eV s m args below meth cdx ls Q E hml hr hlk hnm hZ hl eQ => ?_)
  have hx := E.1
  have hb := E.2.1
  have hl : lv_has ls 1 [(0, .ref la)] := hl
  refine lv_aload_n hx hb d_AL_init_0 rfl (lv_at hl 0 rfl) ?_
  refine mm_callv (mm_runI (As := []) (rest := []) E hZ hml hl.1 lk_AL_1 me_AbL_init in_AbL_init (c_AbL_init l g ht h) ⟨Nat.le_of_ble_eq_true rfl, Nat.le_of_ble_eq_true rfl⟩ rfl (Nat.le_of_ble_eq_true rfl) d_AL_init_1 ⟨Nat.le_of_ble_eq_true rfl, Nat.le_of_ble_eq_true rfl⟩) hZ (fun M1 H locs hp hZ => ?_)
  have h2 := (congrFun hp la).trans (mm_self _ _ _)
  refine lv_aload_n hx hb d_AL_init_4 rfl (lv_at hl 0 rfl) ?_
  refine mm_dflt E hZ w_50 d_AL_init_5 ?_
  refine mm_put E hZ cl_AL fl_AL_9 (by decide) rfl h2 ht rfl rfl (Nat.le_of_ble_eq_true rfl) d_AL_init_8 (fun H locs hZ => ?_)
  obtain ⟨M2, eM2⟩ : ∃ zz : mm_M, zz = mm_up M1 la (ob t 10 [.int 0, .ref (g_df g), .int 0]) := ⟨_, rfl⟩
  have hZ : mm_S g s M2 H locs := by rw [eM2]; exact hZ
  have h3 := (congrFun eM2 la).trans (mm_self _ _ _)
  exact mm_vret E hr hlk eQ hZ d_AL_init_11 ⟨rfl, ⟨0, g_df g, h3, Or.inl ⟨rfl, rfl, rfl⟩⟩, fun u hu => by
    rw [eM2, hp, mm_uu]
    exact mm_same.up h hu _⟩
set_option maxHeartbeats 4000000 in
set_option maxRecDepth 100000 in
theorem c_AL_size (l : Launch) (g : mm_G) {M0 : mm_M} {t la c n : Nat} {ad : Nat → Nat} (h0 : Al g M0 t la c n ad) : Ci l g y_AL_size b_AL_size 1 .int (rk 0 0 0 0) M0 [.ref la] (fun r M' => M' = M0 ∧ r = nI c) := by
  refine mm_enter (by decide) (Nat.le_of_ble_eq_true rfl) (fun pG eV s m args below meth cdx ls Q E hml hr hlk hnm hZ hl eQ => ?_)
  have hx := E.1
  have hb := E.2.1
  have hl : lv_has ls 1 [(0, .ref la)] := hl
  obtain ⟨mo, ea, hla, hea⟩ := h0
  refine lv_aload_n hx hb d_AL_size_0 rfl (lv_at hl 0 rfl) ?_
  refine mm_get E hZ cl_AL fl_AL_48 (by decide) hla rfl d_AL_size_1 ?_
  exact mm_iret (v := nI c) E hr hlk eQ hZ d_AL_size_4 ⟨_, rfl, rfl, rfl⟩
set_option maxHeartbeats 4000000 in
set_option maxRecDepth 100000 in
theorem c_Prec_checkIndex (l : Launch) (g : mm_G) {M0 : mm_M} {i c : Nat} (hi : i < c) (hc : c < 2 ^ 31) : Ci l g y_Prec_checkIndex b_Prec_checkIndex 3 .int (rk 0 0 0 0) M0 [.int (nI i), .int (nI c), .null] (fun r M' => M' = M0 ∧ r = nI i) := by
  refine mm_enter (by decide) (Nat.le_of_ble_eq_true rfl) (fun pG eV s m args below meth cdx ls Q E hml hr hlk hnm hZ hl eQ => ?_)
  have hx := E.1
  have hb := E.2.1
  have hl : lv_has ls 3 [(0, .int (nI i)), (1, .int (nI c)), (2, .null)] := hl
  refine lv_iload_n hx hb d_Prec_checkIndex_0 rfl (lv_at hl 0 rfl) ?_
  refine lv_if_lt (tgt := 9) hx hb d_Prec_checkIndex_1 (by decide) (fun c1 => ?_) (fun c1 => ?_)
  · exact absurd c1 (nI_pos (by omega))
  · refine lv_iload_n hx hb d_Prec_checkIndex_4 rfl (lv_at hl 0 rfl) ?_
    refine lv_iload_n hx hb d_Prec_checkIndex_5 rfl (lv_at hl 1 rfl) ?_
    refine lv_icmp_lt (tgt := 16) hx hb d_Prec_checkIndex_6 (by decide) (fun c6 => ?_) (fun c6 => ?_)
    · refine lv_iload_n hx hb d_Prec_checkIndex_16 rfl (lv_at hl 0 rfl) ?_
      exact mm_iret (v := nI i) E hr hlk eQ hZ d_Prec_checkIndex_17 ⟨_, rfl, rfl, rfl⟩
    · exact absurd (nI_lt hi (by omega)) c6
set_option maxHeartbeats 4000000 in
set_option maxRecDepth 100000 in
theorem c_Objs_checkIndex (l : Launch) (g : mm_G) {M0 : mm_M} {i c : Nat} (hi : i < c) (hc : c < 2 ^ 31) : Ci l g y_Objs_checkIndex b_Objs_checkIndex 2 .int (rk 1 22 0 0) M0 [.int (nI i), .int (nI c)] (fun r M' => M' = M0 ∧ r = nI i) := by
  refine mm_enter (by decide) (Nat.le_of_ble_eq_true rfl) (fun pG eV s m args below meth cdx ls Q E hml hr hlk hnm hZ hl eQ => ?_)
  have hx := E.1
  have hb := E.2.1
  have hl : lv_has ls 2 [(0, .int (nI i)), (1, .int (nI c))] := hl
  refine lv_iload_n hx hb d_Objs_checkIndex_0 rfl (lv_at hl 0 rfl) ?_
  refine lv_iload_n hx hb d_Objs_checkIndex_1 rfl (lv_at hl 1 rfl) ?_
  refine lv_null hx hb d_Objs_checkIndex_2 ?_
  refine mm_calli (mm_runS (As := [.int (nI i), .int (nI c), .null]) (rest := []) E hZ hml hl.1 lk_Objs_105 me_Prec_checkIndex st_Prec_checkIndex (c_Prec_checkIndex l g hi hc) ⟨Nat.le_of_ble_eq_true rfl, Nat.le_of_ble_eq_true rfl⟩ rfl (Nat.le_of_ble_eq_true rfl) d_Objs_checkIndex_3 ⟨Nat.le_of_ble_eq_true rfl, Nat.le_of_ble_eq_true rfl⟩) hZ (fun r1 M1 H locs hp hZ => ?_)
  rw [hp.1] at hZ
  replace hp := hp.2
  subst hp
  exact mm_iret (v := nI i) E hr hlk eQ hZ d_Objs_checkIndex_6 ⟨_, rfl, rfl, rfl⟩
set_option maxHeartbeats 4000000 in
set_option maxRecDepth 100000 in
theorem c_AL_elementData (l : Launch) (g : mm_G) {M0 : mm_M} {t la c n : Nat} {ad : Nat → Nat} (h0 : Al g M0 t la c n ad) {i : Nat} (hi : i < c) : Cq l g y_AL_elementData b_AL_elementData 2 (.object "java/lang/Object") (rk 0 0 0 0) M0 [.ref la, .int (nI i)] (fun r M' => M' = M0 ∧ r = some (ad i)) := by
  refine mm_enter (by decide) (Nat.le_of_ble_eq_true rfl) (fun pG eV s m args below meth cdx ls Q E hml hr hlk hnm hZ hl eQ => ?_)
  have hx := E.1
  have hb := E.2.1
  have hl : lv_has ls 2 [(0, .ref la), (1, .int (nI i))] := hl
  obtain ⟨mo, ea, hla, hea⟩ := h0
  rcases hea with ⟨_, z, _⟩ | ⟨hn10, hn20, hcn, f, hea, hf, hfn⟩
  · exact absurd hi (by omega)
  refine lv_aload_n hx hb d_AL_elementData_0 rfl (lv_at hl 0 rfl) ?_
  refine mm_get E hZ cl_AL fl_AL_9 (by decide) hla rfl d_AL_elementData_1 ?_
  refine lv_iload_n hx hb d_AL_elementData_4 rfl (lv_at hl 1 rfl) ?_
  refine mm_aald (t0 := 4) E hZ hea rfl rfl (show i < n by omega) (by omega) d_AL_elementData_5 ?_
  rw [hf i hi]
  show W pG l eV (rk 0 0 0 0) s m args below meth cdx s.heap [] 0 0 Q (F0 m 6 ls [va_rf (some (ad i))])
  exact mm_aret (v := (some (ad i))) E hr (Or.inl ⟨_, rfl⟩) hlk eQ hZ d_AL_elementData_6 ⟨_, rfl, rfl, rfl⟩
set_option maxHeartbeats 4000000 in
set_option maxRecDepth 100000 in
theorem c_AL_get (l : Launch) (g : mm_G) {M0 : mm_M} {t la c n : Nat} {ad : Nat → Nat} (h0 : Al g M0 t la c n ad) {i : Nat} (hi : i < c) : Cq l g y_AL_get b_AL_get 2 (.object "java/lang/Object") (rk 2 43 0 0) M0 [.ref la, .int (nI i)] (fun r M' => M' = M0 ∧ r = some (ad i)) := by
  refine mm_enter (by decide) (Nat.le_of_ble_eq_true rfl) (fun pG eV s m args below meth cdx ls Q E hml hr hlk hnm hZ hl eQ => ?_)
  have hx := E.1
  have hb := E.2.1
  have hl : lv_has ls 2 [(0, .ref la), (1, .int (nI i))] := hl
  have h00 := h0
  obtain ⟨mo, ea, hla, hea⟩ := h0
  rcases hea with ⟨_, z, _⟩ | ⟨hn10, hn20, hcn, f, hea, hf, hfn⟩
  · exact absurd hi (by omega)
  refine lv_iload_n hx hb d_AL_get_0 rfl (lv_at hl 1 rfl) ?_
  refine lv_aload_n hx hb d_AL_get_1 rfl (lv_at hl 0 rfl) ?_
  refine mm_get E hZ cl_AL fl_AL_48 (by decide) hla rfl d_AL_get_2 ?_
  refine mm_calli (mm_runS (As := [.int (nI i), .int (nI c)]) (rest := []) E hZ hml hl.1 lk_AL_118 me_Objs_checkIndex st_Objs_checkIndex (c_Objs_checkIndex l g hi (by omega)) ⟨Nat.le_of_ble_eq_true rfl, Nat.le_of_ble_eq_true rfl⟩ rfl (Nat.le_of_ble_eq_true rfl) d_AL_get_5 ⟨Nat.le_of_ble_eq_true rfl, Nat.le_of_ble_eq_true rfl⟩) hZ (fun r1 M1 H locs hp hZ => ?_)
  rw [hp.1] at hZ
  replace hp := hp.2
  refine lv_pop hx hb d_AL_get_8 rfl ?_
  refine lv_aload_n hx hb d_AL_get_9 rfl (lv_at hl 0 rfl) ?_
  refine lv_iload_n hx hb d_AL_get_10 rfl (lv_at hl 1 rfl) ?_
  refine mm_callq (mm_runV (As := [.int (nI i)]) (rest := []) E hZ hml hl.1 lk_AL_123 me_AL_elementData in_AL_elementData (c_AL_elementData l g h00 hi) hla cl_AL.1 ⟨Nat.le_of_ble_eq_true rfl, Nat.le_of_ble_eq_true rfl⟩ rfl (Nat.le_of_ble_eq_true rfl) d_AL_get_11 ⟨Nat.le_of_ble_eq_true rfl, Nat.le_of_ble_eq_true rfl⟩) hZ (fun rq M1 H locs hp hZ => ?_)
  rw [hp.1] at hZ
  replace hp := hp.2
  subst hp
  exact mm_aret (v := (some (ad i))) E hr (Or.inl ⟨_, rfl⟩) hlk eQ hZ d_AL_get_14 ⟨_, rfl, rfl, rfl⟩
