/-! THE REFERENCE: its small methods -/
theorem i64_0 : (0 : Int32).toInt64 = 0 := by decide
/-- an int in a range of longs -/
theorem in_nat {x : Int32} {n : Nat} {lo hi : Int64} (hlo : lo = 0) (hhi : hi.toInt = n) (h : lo ≤ x.toInt64 ∧ x.toInt64 ≤ hi) : ∃ j : Nat, j ≤ n ∧ x = nI j := by
  have h1 := Int64.le_iff_toInt_le.mp h.1
  have h2 := Int64.le_iff_toInt_le.mp h.2
  rw [hlo, Int32.toInt_toInt64] at h1
  rw [Int32.toInt_toInt64, hhi] at h2
  have h3 : (0 : Int64).toInt = 0 := by decide
  rw [h3] at h1
  refine ⟨x.toInt.toNat, by omega, ?_⟩
  apply Int32.toInt_inj.mp
  have h4 := Int32.toInt_lt x
  rw [nI_toInt (by omega)]
  omega
theorem nat_in {n j : Nat} {hi : Int64} (hj : j ≤ n) (hn : n < 2 ^ 31) (hhi : hi.toInt = n) : (0 : Int64) ≤ (nI j).toInt64 ∧ (nI j).toInt64 ≤ hi := by
  constructor
  · apply Int64.le_iff_toInt_le.mpr
    rw [Int32.toInt_toInt64, nI_toInt (by omega), show (0 : Int64).toInt = 0 by decide]
    omega
  · apply Int64.le_iff_toInt_le.mpr
    rw [Int32.toInt_toInt64, nI_toInt (by omega), hhi]
    omega
theorem out_nat {x : Int32} {n : Nat} {hi : Int64} (hn : n < 2 ^ 31) (hhi : hi.toInt = n) (h : ¬ ((0 : Int64) ≤ x.toInt64 ∧ x.toInt64 ≤ hi)) : ∀ j, j ≤ n → x ≠ nI j := fun j hj e => h (e ▸ nat_in hj hn hhi)
theorem lnat_in {n j : Nat} {hi : Int64} (hj : j ≤ n) (hn : n < 2 ^ 63) (hhi : hi.toInt = n) : (0 : Int64) ≤ lN j ∧ lN j ≤ hi := by
  constructor
  · apply Int64.le_iff_toInt_le.mpr
    rw [pk_lT (by omega), show (0 : Int64).toInt = 0 by decide]
    omega
  · apply Int64.le_iff_toInt_le.mpr
    rw [pk_lT (by omega), hhi]
    omega
/-- may an event of item j come at t -/
abbrev rTime (I : Nat → Nat → Int32) (L : Nat → Nat → Int64) (j : Nat) (t : Int64) : Prop := (if I 7 j < 0 then 0 else L 9 j) ≤ t ∧ t ≤ 1000000000
/-- nothing is expected of item j -/
abbrev rEnd (I : Nat → Nat → Int32) (j : Nat) : Nat → Nat → Int32 := up2 (up2 (up2 I 10 j 0) 13 j 0) 14 j 0
theorem Rq.step {g : mm_G} {M0 M M1 : mm_M} {q : Nat} {ad : Nat → Nat} {I I' : Nat → Nat → Int32} {L L' : Nat → Nat → Int64} {S S' : Nat → Int32} {ck ck' : Int64} (h : Rq g M0 M q ad I L S ck) (h' : Rq g M M1 q ad I' L' S' ck') : Rq g M0 M1 q ad I' L' S' ck' := ⟨h'.1, fun t ht => (h.2 t ht).tr (h'.2 t ht)⟩
theorem lin_nat {x hi : Int64} {n : Nat} (hhi : hi.toInt = n) (h : (0 : Int64) ≤ x ∧ x ≤ hi) : ∃ j : Nat, j ≤ n ∧ x = lN j := by
  have h1 := Int64.le_iff_toInt_le.mp h.1
  have h2 := Int64.le_iff_toInt_le.mp h.2
  rw [hhi] at h2
  rw [show (0 : Int64).toInt = 0 by decide] at h1
  refine ⟨x.toInt.toNat, by omega, ?_⟩
  apply Int64.toInt_inj.mp
  have h4 := Int64.toInt_lt x
  rw [pk_lT (by omega)]
  omega
set_option maxHeartbeats 4000000 in
set_option maxRecDepth 100000 in
theorem c_Mod_isIn (l : Launch) (g : mm_G) (M : mm_M) (v lo hi : Int64) : Ci l g y_Mod_isIn b_Mod_isIn 6 .boolean (rk 0 0 0 0) M [.long v, .long lo, .long hi] (fun r M' => M' = M ∧ r = b32 (lo ≤ v ∧ v ≤ hi)) := by
  refine mm_enter (by decide) (Nat.le_of_ble_eq_true rfl) (fun pG eV s m args below meth cdx ls Q E hml hr hlk hnm hZ hl eQ => ?_)
  have hx := E.1
  have hb := E.2.1
  have hl : lv_has ls 6 [(0, .long v), (2, .long lo), (4, .long hi)] := hl
  refine lv_lload_n hx hb d_Mod_isIn_0 rfl (lv_at hl 0 rfl) ?_
  refine lv_lload_n hx hb d_Mod_isIn_1 rfl (lv_at hl 1 rfl) ?_
  refine W.lcmp hx hb d_Mod_isIn_2 ?_
  refine lv_if_lt (tgt := 17) hx hb d_Mod_isIn_3 (by decide) (fun c3 => ?_) (fun c3 => ?_)
  · have c3 := (lg_cmp_lt _ _).mp c3
    refine lv_iconst (v := 0) hx hb d_Mod_isIn_17 (by decide) ?_
    exact mm_zret (v := 0) E hr hlk eQ hZ rfl d_Mod_isIn_18 ⟨_, rfl, rfl, b32_f (fun q => absurd q.1 (Int64.not_le.mpr c3))⟩
  · have c3 := mt (lg_cmp_lt _ _).mpr c3
    refine lv_lload_n hx hb d_Mod_isIn_6 rfl (lv_at hl 0 rfl) ?_
    refine lv_lload hx hb d_Mod_isIn_7 (lv_at hl 2 rfl) ?_
    refine W.lcmp hx hb d_Mod_isIn_9 ?_
    refine lv_if_gt (tgt := 17) hx hb d_Mod_isIn_10 (by decide) (fun c10 => ?_) (fun c10 => ?_)
    · have c10 := (lg_cmp_gt _ _).mp c10
      refine lv_iconst (v := 0) hx hb d_Mod_isIn_17 (by decide) ?_
      exact mm_zret (v := 0) E hr hlk eQ hZ rfl d_Mod_isIn_18 ⟨_, rfl, rfl, b32_f (fun q => absurd q.2 (Int64.not_le.mpr c10))⟩
    · have c10 := mt (lg_cmp_gt _ _).mpr c10
      refine lv_iconst (v := 1) hx hb d_Mod_isIn_13 (by decide) ?_
      refine lv_goto (tgt := 18) hx hb d_Mod_isIn_14 (by decide) ?_
      exact mm_zret (v := 1) E hr hlk eQ hZ rfl d_Mod_isIn_18 ⟨_, rfl, rfl, b32_t ⟨Int64.not_lt.mp c3, Int64.not_lt.mp c10⟩⟩
set_option maxHeartbeats 4000000 in
set_option maxRecDepth 100000 in
theorem c_Mod_end (l : Launch) (g : mm_G) {M : mm_M} {q : Nat} {ad : Nat → Nat} {I : Nat → Nat → Int32} {L : Nat → Nat → Int64} {S : Nat → Int32} {ck : Int64} (h0 : Rs g M q ad I L S ck) {i : Nat} (hi : i < 200) : Cv l g y_Mod_end b_Mod_end 2 (rk 0 0 0 0) M [.ref q, .int (nI i)] (fun M' => Rq g M M' q ad (up2 (up2 (up2 I 10 i 0) 13 i 0) 14 i 0) L S ck) := by
  refine mm_enter (by decide) (Nat.le_of_ble_eq_true rfl) (fun pG eV s m args below meth cdx ls Q E hml hr hlk hnm hZ hl eQ => ?_)
  have hx := E.1
  have hb := E.2.1
  have hl : lv_has ls 2 [(0, .ref q), (1, .int (nI i))] := hl
  have hR := h0.q
  refine lv_aload_n hx hb d_Mod_end_0 rfl (lv_at hl 0 rfl) ?_
  refine mm_get (v := .ref (ad 10)) E hZ cl_Mod fl_Mod_36 (by decide) hR.1.1 rfl d_Mod_end_1 ?_
  refine lv_iload_n hx hb d_Mod_end_4 rfl (lv_at hl 1 rfl) ?_
  refine lv_iconst (v := 0) hx hb d_Mod_end_5 (by decide) ?_
  refine rr_iast 10 rfl rfl E hZ hR rfl (show i < 200 by omega) d_Mod_end_6 (fun M H locs hZ hR => ?_)
  refine lv_aload_n hx hb d_Mod_end_7 rfl (lv_at hl 0 rfl) ?_
  refine mm_get (v := .ref (ad 13)) E hZ cl_Mod fl_Mod_45 (by decide) hR.1.1 rfl d_Mod_end_8 ?_
  refine lv_iload_n hx hb d_Mod_end_11 rfl (lv_at hl 1 rfl) ?_
  refine lv_iconst (v := 0) hx hb d_Mod_end_12 (by decide) ?_
  refine rr_zast 13 rfl rfl E hZ hR bo_0 rfl (show i < 200 by omega) d_Mod_end_13 (fun M H locs hZ hR => ?_)
  refine lv_aload_n hx hb d_Mod_end_14 rfl (lv_at hl 0 rfl) ?_
  refine mm_get (v := .ref (ad 14)) E hZ cl_Mod fl_Mod_48 (by decide) hR.1.1 rfl d_Mod_end_15 ?_
  refine lv_iload_n hx hb d_Mod_end_18 rfl (lv_at hl 1 rfl) ?_
  refine lv_iconst (v := 0) hx hb d_Mod_end_19 (by decide) ?_
  refine rr_zast 14 rfl rfl E hZ hR bo_0 rfl (show i < 200 by omega) d_Mod_end_20 (fun M H locs hZ hR => ?_)
  exact mm_vret E hr hlk eQ hZ d_Mod_end_21 ⟨rfl, hR⟩
set_option maxHeartbeats 4000000 in
set_option maxRecDepth 100000 in
theorem c_Mod_isTime (l : Launch) (g : mm_G) {M : mm_M} {q : Nat} {ad : Nat → Nat} {I : Nat → Nat → Int32} {L : Nat → Nat → Int64} {S : Nat → Int32} {ck : Int64} (h0 : Rs g M q ad I L S ck) {i : Nat} (hi : i < 200) (t : Int64) : Ci l g y_Mod_isTime b_Mod_isTime 4 .boolean (rk 1 25 0 0) M [.ref q, .int (nI i), .long t] (fun r M' => M' = M ∧ r = b32 ((if I 7 i < 0 then 0 else L 9 i) ≤ t ∧ t ≤ 1000000000)) := by
  refine mm_enter (by decide) (Nat.le_of_ble_eq_true rfl) (fun pG eV s m args below meth cdx ls Q E hml hr hlk hnm hZ hl eQ => ?_)
  have hx := E.1
  have hb := E.2.1
  have hl : lv_has ls 4 [(0, .ref q), (1, .int (nI i)), (2, .long t)] := hl
  have hR := h0.q
  refine lv_lload_n hx hb d_Mod_isTime_0 rfl (lv_at hl 2 rfl) ?_
  refine lv_aload_n hx hb d_Mod_isTime_1 rfl (lv_at hl 0 rfl) ?_
  refine mm_get (v := .ref (ad 7)) E hZ cl_Mod fl_Mod_27 (by decide) hR.1.1 rfl d_Mod_isTime_2 ?_
  refine lv_iload_n hx hb d_Mod_isTime_5 rfl (lv_at hl 1 rfl) ?_
  refine rr_iald 7 rfl rfl E hZ hR rfl (show i < 200 by omega) d_Mod_isTime_6 ?_
  refine lv_if_ge (tgt := 14) hx hb d_Mod_isTime_7 (by decide) (fun c7 => ?_) (fun c7 => ?_)
  · refine lv_aload_n hx hb d_Mod_isTime_14 rfl (lv_at hl 0 rfl) ?_
    refine mm_get (v := .ref (ad 9)) E hZ cl_Mod fl_Mod_33 (by decide) hR.1.1 rfl d_Mod_isTime_15 ?_
    refine lv_iload_n hx hb d_Mod_isTime_18 rfl (lv_at hl 1 rfl) ?_
    refine rr_lald 9 rfl E hZ hR rfl (show i < 200 by omega) d_Mod_isTime_19 ?_
    refine lv_ldc2 (v := 1000000000) hx hb E.2.2.1 (E.2.2.2.1 _ w_715) d_Mod_isTime_20 ?_
    refine mm_calli (mm_runS (As := [.long t, .long (L 9 i), .long 1000000000]) (rest := []) E hZ hml hl.1 lk_Mod_78 me_Mod_isIn st_Mod_isIn (c_Mod_isIn l g _ t (L 9 i) 1000000000) ⟨Nat.le_of_ble_eq_true rfl, Nat.le_of_ble_eq_true rfl⟩ rfl (Nat.le_of_ble_eq_true rfl) d_Mod_isTime_23 ⟨Nat.le_of_ble_eq_true rfl, Nat.le_of_ble_eq_true rfl⟩) hZ (fun r1 M1 H locs hp hZ => ?_)
    rw [hp.1] at hZ
    replace hp := hp.2
    exact mm_zret (v := r1) E hr hlk eQ hZ (by rw [hp]; exact bo_n (b32_bo _)) d_Mod_isTime_26 ⟨_, rfl, rfl, by rw [hp, if_neg (Int32.not_lt.mpr c7)]⟩
  · refine lv_lconst (v := 0) hx hb d_Mod_isTime_10 (by decide) ?_
    refine lv_goto (tgt := 20) hx hb d_Mod_isTime_11 (by decide) ?_
    refine lv_ldc2 (v := 1000000000) hx hb E.2.2.1 (E.2.2.2.1 _ w_715) d_Mod_isTime_20 ?_
    refine mm_calli (mm_runS (As := [.long t, .long 0, .long 1000000000]) (rest := []) E hZ hml hl.1 lk_Mod_78 me_Mod_isIn st_Mod_isIn (c_Mod_isIn l g _ t (0) 1000000000) ⟨Nat.le_of_ble_eq_true rfl, Nat.le_of_ble_eq_true rfl⟩ rfl (Nat.le_of_ble_eq_true rfl) d_Mod_isTime_23 ⟨Nat.le_of_ble_eq_true rfl, Nat.le_of_ble_eq_true rfl⟩) hZ (fun r2 M1 H locs hp hZ => ?_)
    rw [hp.1] at hZ
    replace hp := hp.2
    exact mm_zret (v := r2) E hr hlk eQ hZ (by rw [hp]; exact bo_n (b32_bo _)) d_Mod_isTime_26 ⟨_, rfl, rfl, by rw [hp, if_pos (Int32.not_le.mp c7)]⟩
set_option maxHeartbeats 4000000 in
set_option maxRecDepth 100000 in
theorem c_Mod_failing (l : Launch) (g : mm_G) {M : mm_M} {q : Nat} {ad : Nat → Nat} {I : Nat → Nat → Int32} {L : Nat → Nat → Int64} {S : Nat → Int32} {ck : Int64} (h0 : Rs g M q ad I L S ck) (i : Int32) {f : Nat} (hf : S 24 = nI f) (hf4 : f ≤ 40) : Ci l g y_Mod_failing b_Mod_failing 2 .int (rk 0 0 0 0) M [.ref q, .int i] (fun r M' => Rq g M M' q ad I L (va_up S 0 0) ck ∧ (((∀ j, j < f → i ≠ nI j) ∧ r = 0) ∨ ∃ j, j < f ∧ i = nI j ∧ r = I 25 j)) := by
  refine mm_enter (by decide) (Nat.le_of_ble_eq_true rfl) (fun pG eV s m args below meth cdx ls Q E hml hr hlk hnm hZ hl eQ => ?_)
  have hx := E.1
  have hb := E.2.1
  have hl : lv_has ls 2 [(0, .ref q), (1, .int i)] := hl
  have hR := h0.q
  refine lv_aload_n hx hb d_Mod_failing_0 rfl (lv_at hl 0 rfl) ?_
  refine lv_iconst (v := 0) hx hb d_Mod_failing_1 (by decide) ?_
  refine rr_put0 E hZ hR fl_Mod_72 d_Mod_failing_2 (fun M H locs hZ hR => ?_)
  refine lv_iload_n hx hb d_Mod_failing_5 rfl (lv_at hl 1 rfl) ?_
  refine lv_if_lt (tgt := 26) hx hb d_Mod_failing_6 (by decide) (fun c6 => ?_) (fun c6 => ?_)
  · refine lv_iconst (v := 0) hx hb d_Mod_failing_26 (by decide) ?_
    exact mm_iret (v := 0) E hr hlk eQ hZ d_Mod_failing_27 ⟨_, rfl, hR, Or.inl ⟨fun j hj e => absurd (e ▸ c6) (nI_pos (by omega)), rfl⟩⟩
  · refine lv_iload_n hx hb d_Mod_failing_9 rfl (lv_at hl 1 rfl) ?_
    refine lv_aload_n hx hb d_Mod_failing_10 rfl (lv_at hl 0 rfl) ?_
    refine mm_get (v := .int ((va_up S 0 0) 24)) E hZ cl_Mod fl_Mod_99 (by decide) hR.1.1 rfl d_Mod_failing_11 ?_
    rw [show (va_up S 0 0) 24 = nI f from (va_up_ne _ _ (by decide)).trans (hf)]
    refine lv_icmp_ge (tgt := 26) hx hb d_Mod_failing_14 (by decide) (fun c14 => ?_) (fun c14 => ?_)
    · refine lv_iconst (v := 0) hx hb d_Mod_failing_26 (by decide) ?_
      exact mm_iret (v := 0) E hr hlk eQ hZ d_Mod_failing_27 ⟨_, rfl, hR, Or.inl ⟨fun j hj e => absurd c14 (Int32.not_le.mpr (e ▸ nI_lt hj (by omega))), rfl⟩⟩
    · obtain ⟨j, hj, rfl⟩ : ∃ j : Nat, j < f ∧ i = nI j := by
        rcases pk_ix i (show f < 2 ^ 31 by omega) with z | z | z
        · exact absurd z c6
        · exact absurd z c14
        · exact z
      refine lv_aload_n hx hb d_Mod_failing_17 rfl (lv_at hl 0 rfl) ?_
      refine mm_get (v := .ref (ad 25)) E hZ cl_Mod fl_Mod_69 (by decide) hR.1.1 rfl d_Mod_failing_18 ?_
      refine lv_iload_n hx hb d_Mod_failing_21 rfl (lv_at hl 1 rfl) ?_
      refine rr_iald 25 rfl rfl E hZ hR rfl (show j < 40 by omega) d_Mod_failing_22 ?_
      refine lv_goto (tgt := 27) hx hb d_Mod_failing_23 (by decide) ?_
      exact mm_iret (v := I 25 j) E hr hlk eQ hZ d_Mod_failing_27 ⟨_, rfl, hR, Or.inr ⟨j, hj, rfl, rfl⟩⟩
set_option maxHeartbeats 4000000 in
set_option maxRecDepth 100000 in
theorem c_Mod_state (l : Launch) (g : mm_G) {M : mm_M} {q : Nat} {ad : Nat → Nat} {I : Nat → Nat → Int32} {L : Nat → Nat → Int64} {S : Nat → Int32} {ck : Int64} (h0 : Rs g M q ad I L S ck) (i : Int32) : Ci l g y_Mod_state b_Mod_state 2 .int (rk 1 25 0 0) M [.ref q, .int i] (fun r M' => Rq g M M' q ad I L (va_up S 0 0) ck ∧ (((∀ j, j ≤ 199 → i ≠ nI j) ∧ r = (-101)) ∨ ∃ j, j ≤ 199 ∧ i = nI j ∧ r = I 7 j + (if ¬ I 14 j = 0 then 200 else if ¬ I 13 j = 0 then 100 else 0))) := by
  refine mm_enter (by decide) (Nat.le_of_ble_eq_true rfl) (fun pG eV s m args below meth cdx ls Q E hml hr hlk hnm hZ hl eQ => ?_)
  have hx := E.1
  have hb := E.2.1
  have hl : lv_has ls 2 [(0, .ref q), (1, .int i)] := hl
  have hR := h0.q
  refine lv_aload_n hx hb d_Mod_state_0 rfl (lv_at hl 0 rfl) ?_
  refine lv_iconst (v := 0) hx hb d_Mod_state_1 (by decide) ?_
  refine rr_put0 E hZ hR fl_Mod_72 d_Mod_state_2 (fun M H locs hZ hR => ?_)
  refine lv_iload_n hx hb d_Mod_state_5 rfl (lv_at hl 1 rfl) ?_
  refine lv_i2l hx hb d_Mod_state_6 rfl ?_
  refine lv_lconst (v := 0) hx hb d_Mod_state_7 (by decide) ?_
  refine lv_ldc2 (v := 199) hx hb E.2.2.1 (E.2.2.2.1 _ w_709) d_Mod_state_8 ?_
  refine mm_calli (mm_runS (As := [.long i.toInt64, .long 0, .long 199]) (rest := []) E hZ hml hl.1 lk_Mod_78 me_Mod_isIn st_Mod_isIn (c_Mod_isIn l g _ i.toInt64 0 199) ⟨Nat.le_of_ble_eq_true rfl, Nat.le_of_ble_eq_true rfl⟩ rfl (Nat.le_of_ble_eq_true rfl) d_Mod_state_11 ⟨Nat.le_of_ble_eq_true rfl, Nat.le_of_ble_eq_true rfl⟩) hZ (fun r1 M1 H locs hp hZ => ?_)
  rw [hp.1] at hZ
  replace hp := hp.2
  refine lv_if_ne (tgt := 20) hx hb d_Mod_state_14 (by decide) (fun c14 => ?_) (fun c14 => ?_)
  · obtain ⟨j, hj, rfl⟩ := in_nat (n := 199) rfl (by decide) (b32_ne0 (hp ▸ c14))
    refine lv_aload_n hx hb d_Mod_state_20 rfl (lv_at hl 0 rfl) ?_
    refine mm_get (v := .ref (ad 7)) E hZ cl_Mod fl_Mod_27 (by decide) hR.1.1 rfl d_Mod_state_21 ?_
    refine lv_iload_n hx hb d_Mod_state_24 rfl (lv_at hl 1 rfl) ?_
    refine rr_iald 7 rfl rfl E hZ hR rfl (show j < 200 by omega) d_Mod_state_25 ?_
    refine lv_aload_n hx hb d_Mod_state_26 rfl (lv_at hl 0 rfl) ?_
    refine mm_get (v := .ref (ad 14)) E hZ cl_Mod fl_Mod_48 (by decide) hR.1.1 rfl d_Mod_state_27 ?_
    refine lv_iload_n hx hb d_Mod_state_30 rfl (lv_at hl 1 rfl) ?_
    refine rr_zald 14 rfl rfl E hZ hR rfl (show j < 200 by omega) d_Mod_state_31 ?_
    refine lv_if_eq (tgt := 41) hx hb d_Mod_state_32 (by decide) (fun c32 => ?_) (fun c32 => ?_)
    · refine lv_aload_n hx hb d_Mod_state_41 rfl (lv_at hl 0 rfl) ?_
      refine mm_get (v := .ref (ad 13)) E hZ cl_Mod fl_Mod_45 (by decide) hR.1.1 rfl d_Mod_state_42 ?_
      refine lv_iload_n hx hb d_Mod_state_45 rfl (lv_at hl 1 rfl) ?_
      refine rr_zald 13 rfl rfl E hZ hR rfl (show j < 200 by omega) d_Mod_state_46 ?_
      refine lv_if_eq (tgt := 55) hx hb d_Mod_state_47 (by decide) (fun c47 => ?_) (fun c47 => ?_)
      · refine lv_iconst (v := 0) hx hb d_Mod_state_55 (by decide) ?_
        refine lv_iadd hx hb d_Mod_state_56 ?_
        exact mm_iret (v := (I 7 j) + 0) E hr hlk eQ hZ d_Mod_state_57 ⟨_, rfl, hR, Or.inr ⟨j, hj, rfl, by rw [if_neg (fun q => q c32), if_neg (fun q => q c47)]⟩⟩
      · refine lv_bipush (v := 100) hx hb d_Mod_state_50 (by decide) ?_
        refine lv_goto (tgt := 56) hx hb d_Mod_state_52 (by decide) ?_
        refine lv_iadd hx hb d_Mod_state_56 ?_
        exact mm_iret (v := (I 7 j) + 100) E hr hlk eQ hZ d_Mod_state_57 ⟨_, rfl, hR, Or.inr ⟨j, hj, rfl, by rw [if_neg (fun q => q c32), if_pos c47]⟩⟩
    · refine lv_sipush (v := 200) hx hb d_Mod_state_35 (by decide) ?_
      refine lv_goto (tgt := 56) hx hb d_Mod_state_38 (by decide) ?_
      refine lv_iadd hx hb d_Mod_state_56 ?_
      exact mm_iret (v := (I 7 j) + 200) E hr hlk eQ hZ d_Mod_state_57 ⟨_, rfl, hR, Or.inr ⟨j, hj, rfl, by rw [if_pos c32]⟩⟩
  · refine lv_bipush (v := (-101)) hx hb d_Mod_state_17 (by decide) ?_
    exact mm_iret (v := (-101)) E hr hlk eQ hZ d_Mod_state_19 ⟨_, rfl, hR, Or.inl ⟨out_nat (by decide) (by decide) (b32_eq0.mp (hp ▸ c14)), rfl⟩⟩
set_option maxHeartbeats 4000000 in
set_option maxRecDepth 100000 in
theorem c_Mod_found (l : Launch) (g : mm_G) {M : mm_M} {q : Nat} {ad : Nat → Nat} {I : Nat → Nat → Int32} {L : Nat → Nat → Int64} {S : Nat → Int32} {ck : Int64} (h0 : Rs g M q ad I L S ck) (i : Int32) (t : Int64) : Ci l g y_Mod_found b_Mod_found 4 .int (rk 2 48 0 0) M [.ref q, .int i, .long t] (fun r M' => ((∀ j, j ≤ 199 → i ≠ nI j) ∧ r = (-101) ∧ Rq g M M' q ad I L (va_up S 0 0) ck) ∨ ∃ j, j ≤ 199 ∧ i = nI j ∧ ((¬ rTime I L j t ∧ r = (-102) ∧ Rq g M M' q ad I L (va_up S 0 0) ck) ∨ (rTime I L j t ∧ I 14 j = 0 ∧ r = 0 ∧ Rq g M M' q ad I L (va_up S 0 0) ck) ∨ (rTime I L j t ∧ ¬ I 14 j = 0 ∧ r = 1 ∧ Rq g M M' q ad (rEnd I j) (up2 L 9 j t) (va_up S 0 0) ck))) := by
  refine mm_enter (by decide) (Nat.le_of_ble_eq_true rfl) (fun pG eV s m args below meth cdx ls Q E hml hr hlk hnm hZ hl eQ => ?_)
  have hx := E.1
  have hb := E.2.1
  have hl : lv_has ls 4 [(0, .ref q), (1, .int i), (2, .long t)] := hl
  have hR := h0.q
  refine lv_aload_n hx hb d_Mod_found_0 rfl (lv_at hl 0 rfl) ?_
  refine lv_iconst (v := 0) hx hb d_Mod_found_1 (by decide) ?_
  refine rr_put0 E hZ hR fl_Mod_72 d_Mod_found_2 (fun M H locs hZ hR => ?_)
  refine lv_iload_n hx hb d_Mod_found_5 rfl (lv_at hl 1 rfl) ?_
  refine lv_i2l hx hb d_Mod_found_6 rfl ?_
  refine lv_lconst (v := 0) hx hb d_Mod_found_7 (by decide) ?_
  refine lv_ldc2 (v := 199) hx hb E.2.2.1 (E.2.2.2.1 _ w_709) d_Mod_found_8 ?_
  refine mm_calli (mm_runS (As := [.long i.toInt64, .long 0, .long 199]) (rest := []) E hZ hml hl.1 lk_Mod_78 me_Mod_isIn st_Mod_isIn (c_Mod_isIn l g _ i.toInt64 0 199) ⟨Nat.le_of_ble_eq_true rfl, Nat.le_of_ble_eq_true rfl⟩ rfl (Nat.le_of_ble_eq_true rfl) d_Mod_found_11 ⟨Nat.le_of_ble_eq_true rfl, Nat.le_of_ble_eq_true rfl⟩) hZ (fun r1 M1 H locs hp hZ => ?_)
  rw [hp.1] at hZ
  replace hp := hp.2
  refine lv_if_ne (tgt := 20) hx hb d_Mod_found_14 (by decide) (fun c14 => ?_) (fun c14 => ?_)
  · obtain ⟨j, hj, rfl⟩ := in_nat (n := 199) rfl (by decide) (b32_ne0 (hp ▸ c14))
    clear hp
    refine lv_aload_n hx hb d_Mod_found_20 rfl (lv_at hl 0 rfl) ?_
    refine lv_iload_n hx hb d_Mod_found_21 rfl (lv_at hl 1 rfl) ?_
    refine lv_lload_n hx hb d_Mod_found_22 rfl (lv_at hl 2 rfl) ?_
    refine mm_calli (mm_runV (As := [.int (nI j), .long t]) (rest := []) E hZ hml hl.1 lk_Mod_106 me_Mod_isTime in_Mod_isTime (c_Mod_isTime l g hR.1 (i := j) (by omega) t) hR.1.1 cl_Mod.1 ⟨Nat.le_of_ble_eq_true rfl, Nat.le_of_ble_eq_true rfl⟩ rfl (Nat.le_of_ble_eq_true rfl) d_Mod_found_23 ⟨Nat.le_of_ble_eq_true rfl, Nat.le_of_ble_eq_true rfl⟩) hZ (fun r2 M1 H locs hp hZ => ?_)
    rw [hp.1] at hZ
    replace hp := hp.2
    refine lv_if_ne (tgt := 32) hx hb d_Mod_found_26 (by decide) (fun c26 => ?_) (fun c26 => ?_)
    · have hT : rTime I L j t := b32_ne0 (hp ▸ c26)
      clear hp
      refine lv_aload_n hx hb d_Mod_found_32 rfl (lv_at hl 0 rfl) ?_
      refine mm_get (v := .ref (ad 14)) E hZ cl_Mod fl_Mod_48 (by decide) hR.1.1 rfl d_Mod_found_33 ?_
      refine lv_iload_n hx hb d_Mod_found_36 rfl (lv_at hl 1 rfl) ?_
      refine rr_zald 14 rfl rfl E hZ hR rfl (show j < 200 by omega) d_Mod_found_37 ?_
      refine lv_if_ne (tgt := 43) hx hb d_Mod_found_38 (by decide) (fun c38 => ?_) (fun c38 => ?_)
      · refine lv_aload_n hx hb d_Mod_found_43 rfl (lv_at hl 0 rfl) ?_
        refine lv_iload_n hx hb d_Mod_found_44 rfl (lv_at hl 1 rfl) ?_
        refine mm_callv (mm_runV (As := [.int (nI j)]) (rest := []) E hZ hml hl.1 lk_Mod_110 me_Mod_end in_Mod_end (c_Mod_end l g hR.1 (i := j) (by omega)) hR.1.1 cl_Mod.1 ⟨Nat.le_of_ble_eq_true rfl, Nat.le_of_ble_eq_true rfl⟩ rfl (Nat.le_of_ble_eq_true rfl) d_Mod_found_45 ⟨Nat.le_of_ble_eq_true rfl, Nat.le_of_ble_eq_true rfl⟩) hZ (fun M1 H locs hp hZ => ?_)
        replace hR := hR.step hp
        generalize M1 = M at hZ hR
        refine lv_aload_n hx hb d_Mod_found_48 rfl (lv_at hl 0 rfl) ?_
        refine mm_get (v := .ref (ad 9)) E hZ cl_Mod fl_Mod_33 (by decide) hR.1.1 rfl d_Mod_found_49 ?_
        refine lv_iload_n hx hb d_Mod_found_52 rfl (lv_at hl 1 rfl) ?_
        refine lv_lload_n hx hb d_Mod_found_53 rfl (lv_at hl 2 rfl) ?_
        refine rr_last 9 rfl E hZ hR rfl (show j < 200 by omega) d_Mod_found_54 (fun M H locs hZ hR => ?_)
        refine lv_iconst (v := 1) hx hb d_Mod_found_55 (by decide) ?_
        exact mm_iret (v := 1) E hr hlk eQ hZ d_Mod_found_56 ⟨_, rfl, Or.inr ⟨j, hj, rfl, Or.inr (Or.inr ⟨hT, c38, rfl, hR⟩)⟩⟩
      · refine lv_iconst (v := 0) hx hb d_Mod_found_41 (by decide) ?_
        exact mm_iret (v := 0) E hr hlk eQ hZ d_Mod_found_42 ⟨_, rfl, Or.inr ⟨j, hj, rfl, Or.inr (Or.inl ⟨hT, c38, rfl, hR⟩)⟩⟩
    · refine lv_bipush (v := (-102)) hx hb d_Mod_found_29 (by decide) ?_
      exact mm_iret (v := (-102)) E hr hlk eQ hZ d_Mod_found_31 ⟨_, rfl, Or.inr ⟨j, hj, rfl, Or.inl ⟨b32_eq0.mp (hp ▸ c26), rfl, hR⟩⟩⟩
  · refine lv_bipush (v := (-101)) hx hb d_Mod_found_17 (by decide) ?_
    exact mm_iret (v := (-101)) E hr hlk eQ hZ d_Mod_found_19 ⟨_, rfl, Or.inl ⟨out_nat (by decide) (by decide) (b32_eq0.mp (hp ▸ c14)), rfl, hR⟩⟩
set_option maxHeartbeats 4000000 in
set_option maxRecDepth 100000 in
theorem c_Mod_holiday (l : Launch) (g : mm_G) {M : mm_M} {q : Nat} {ad : Nat → Nat} {I : Nat → Nat → Int32} {L : Nat → Nat → Int64} {S : Nat → Int32} {ck : Int64} (h0 : Rs g M q ad I L S ck) (t : Int64) {n : Nat} (hn : S 16 = nI n) : Ci l g y_Mod_holiday b_Mod_holiday 3 .int (rk 1 25 0 0) M [.ref q, .long t] (fun r M' => ((∀ j, j ≤ 20000 → t ≠ lN j) ∧ r = (-102) ∧ Rq g M M' q ad I L (va_up S 0 0) ck) ∨ ∃ j, j ≤ 20000 ∧ t = lN j ∧ ((¬ I 15 j = 0 ∧ r = 0 ∧ Rq g M M' q ad I L (va_up S 0 0) ck) ∨ (I 15 j = 0 ∧ nI n = 100 ∧ r = (-104) ∧ Rq g M M' q ad I L (va_up S 0 0) ck) ∨ (I 15 j = 0 ∧ ¬ nI n = 100 ∧ r = 1 ∧ Rq g M M' q ad (up2 I 15 j 1) L (va_up (va_up S 0 0) 16 (nI (n + 1))) ck))) := by
  refine mm_enter (by decide) (Nat.le_of_ble_eq_true rfl) (fun pG eV s m args below meth cdx ls Q E hml hr hlk hnm hZ hl eQ => ?_)
  have hx := E.1
  have hb := E.2.1
  have hl : lv_has ls 3 [(0, .ref q), (1, .long t)] := hl
  have hR := h0.q
  refine lv_aload_n hx hb d_Mod_holiday_0 rfl (lv_at hl 0 rfl) ?_
  refine lv_iconst (v := 0) hx hb d_Mod_holiday_1 (by decide) ?_
  refine rr_put0 E hZ hR fl_Mod_72 d_Mod_holiday_2 (fun M H locs hZ hR => ?_)
  refine lv_lload_n hx hb d_Mod_holiday_5 rfl (lv_at hl 1 rfl) ?_
  refine lv_lconst (v := 0) hx hb d_Mod_holiday_6 (by decide) ?_
  refine lv_ldc2 (v := 20000) hx hb E.2.2.1 (E.2.2.2.1 _ w_733) d_Mod_holiday_7 ?_
  refine mm_calli (mm_runS (As := [.long t, .long 0, .long 20000]) (rest := []) E hZ hml hl.1 lk_Mod_78 me_Mod_isIn st_Mod_isIn (c_Mod_isIn l g _ t 0 20000) ⟨Nat.le_of_ble_eq_true rfl, Nat.le_of_ble_eq_true rfl⟩ rfl (Nat.le_of_ble_eq_true rfl) d_Mod_holiday_10 ⟨Nat.le_of_ble_eq_true rfl, Nat.le_of_ble_eq_true rfl⟩) hZ (fun r1 M1 H locs hp hZ => ?_)
  rw [hp.1] at hZ
  replace hp := hp.2
  refine lv_if_ne (tgt := 19) hx hb d_Mod_holiday_13 (by decide) (fun c13 => ?_) (fun c13 => ?_)
  · obtain ⟨j, hj, rfl⟩ := lin_nat (n := 20000) (by decide) (b32_ne0 (hp ▸ c13))
    refine lv_aload_n hx hb d_Mod_holiday_19 rfl (lv_at hl 0 rfl) ?_
    refine mm_get (v := .ref (ad 15)) E hZ cl_Mod fl_Mod_51 (by decide) hR.1.1 rfl d_Mod_holiday_20 ?_
    refine lv_lload_n hx hb d_Mod_holiday_23 rfl (lv_at hl 1 rfl) ?_
    refine lv_l2i hx hb d_Mod_holiday_24 rfl ?_
    refine rr_zald 15 rfl rfl E hZ hR (lN_i j) (show j < 20001 by omega) d_Mod_holiday_25 ?_
    refine lv_if_eq (tgt := 31) hx hb d_Mod_holiday_26 (by decide) (fun c26 => ?_) (fun c26 => ?_)
    · refine lv_aload_n hx hb d_Mod_holiday_31 rfl (lv_at hl 0 rfl) ?_
      refine mm_get (v := .int ((va_up S 0 0) 16)) E hZ cl_Mod fl_Mod_140 (by decide) hR.1.1 rfl d_Mod_holiday_32 ?_
      rw [show (va_up S 0 0) 16 = nI n from (va_up_ne _ _ (by decide)).trans (hn)]
      refine lv_bipush (v := 100) hx hb d_Mod_holiday_35 (by decide) ?_
      refine lv_icmp_ne (tgt := 43) hx hb d_Mod_holiday_37 (by decide) (fun c37 => ?_) (fun c37 => ?_)
      · refine lv_aload_n hx hb d_Mod_holiday_43 rfl (lv_at hl 0 rfl) ?_
        refine mm_get (v := .ref (ad 15)) E hZ cl_Mod fl_Mod_51 (by decide) hR.1.1 rfl d_Mod_holiday_44 ?_
        refine lv_lload_n hx hb d_Mod_holiday_47 rfl (lv_at hl 1 rfl) ?_
        refine lv_l2i hx hb d_Mod_holiday_48 rfl ?_
        refine lv_iconst (v := 1) hx hb d_Mod_holiday_49 (by decide) ?_
        refine rr_zast 15 rfl rfl E hZ hR bo_1 (lN_i j) (show j < 20001 by omega) d_Mod_holiday_50 (fun M H locs hZ hR => ?_)
        refine lv_aload_n hx hb d_Mod_holiday_51 rfl (lv_at hl 0 rfl) ?_
        refine lv_dup hx hb d_Mod_holiday_52 rfl ?_
        refine mm_get (v := .int ((va_up S 0 0) 16)) E hZ cl_Mod fl_Mod_140 (by decide) hR.1.1 rfl d_Mod_holiday_53 ?_
        rw [show (va_up S 0 0) 16 = nI n from (va_up_ne _ _ (by decide)).trans (hn)]
        refine lv_iconst (v := 1) hx hb d_Mod_holiday_56 (by decide) ?_
        refine lv_iadd hx hb d_Mod_holiday_57 ?_
        refine rr_put16 E hZ hR fl_Mod_140 d_Mod_holiday_58 (fun M H locs hZ hR => ?_)
        refine lv_iconst (v := 1) hx hb d_Mod_holiday_61 (by decide) ?_
        exact mm_iret (v := 1) E hr hlk eQ hZ d_Mod_holiday_62 ⟨_, rfl, Or.inr ⟨j, hj, rfl, Or.inr (Or.inr ⟨c26, c37, rfl, by rw [nI_1] at hR; exact hR⟩)⟩⟩
      · refine lv_bipush (v := (-104)) hx hb d_Mod_holiday_40 (by decide) ?_
        exact mm_iret (v := (-104)) E hr hlk eQ hZ d_Mod_holiday_42 ⟨_, rfl, Or.inr ⟨j, hj, rfl, Or.inr (Or.inl ⟨c26, c37, rfl, hR⟩)⟩⟩
    · refine lv_iconst (v := 0) hx hb d_Mod_holiday_29 (by decide) ?_
      exact mm_iret (v := 0) E hr hlk eQ hZ d_Mod_holiday_30 ⟨_, rfl, Or.inr ⟨j, hj, rfl, Or.inl ⟨c26, rfl, hR⟩⟩⟩
  · refine lv_bipush (v := (-102)) hx hb d_Mod_holiday_16 (by decide) ?_
    exact mm_iret (v := (-102)) E hr hlk eQ hZ d_Mod_holiday_18 ⟨_, rfl, Or.inl ⟨fun j hj e => b32_eq0.mp (hp ▸ c13) (e ▸ lnat_in hj (by decide) (by decide)), rfl, hR⟩⟩
