/-! THE CLASS: percentile, found; event, tick, share of an object that is new -/
set_option maxHeartbeats 4000000 in
set_option maxRecDepth 100000 in
theorem c_X_percentile (l : Launch) (g : mm_G) {M0 : mm_M} {x rl yl tl cn dl ia : Nat} {ck : Int64} (hox : M0 x = some (xob rl yl tl cn dl ia ck)) {dA2 sA c : Nat} {fd fs : Nat → Int32} (h0 : Dl g M0 dl dA2 sA c fd fs) (hc : c ≤ 512) (i th : Int32) : Cl l g y_X_percentile b_X_percentile 5 (rk 1 24 0 0) M0 [.ref x, .int i, .int th] (fun r M' => M' = M0 ∧ ((¬ ((0 ≤ i ∧ i < 5) ∧ 0 ≤ th ∧ th ≤ 1000) ∧ r = (-102)) ∨ (((0 ≤ i ∧ i < 5) ∧ 0 ≤ th ∧ th ≤ 1000) ∧ ∃ rd rk0, r = rd.toInt64 ∧ rk0 = (if ((nI (cnt fs i c) * th + 1000 - 1) / 1000) < 1 then 1 else ((nI (cnt fs i c) * th + 1000 - 1) / 1000)) ∧ ((∃ j, j < c ∧ (fs j = i ∧ nI (cnt fs i (j + 1)) = rk0) ∧ rd = fd j) ∨ ((∀ j, j < c → ¬ (fs j = i ∧ nI (cnt fs i (j + 1)) = rk0)) ∧ rd = (-1)))))) := by
  refine mm_enter (by decide) (Nat.le_of_ble_eq_true rfl) (fun pG eV s m args below meth cdx ls Q E hml hr hlk hnm hZ hl eQ => ?_)
  have hx := E.1
  have hb := E.2.1
  have hl : lv_has ls 5 [(0, .ref x), (1, .int i), (2, .int th)] := hl
  refine lv_iload_n hx hb d_X_percentile_0 rfl (lv_at hl 1 rfl) ?_
  refine mm_calli (mm_runS (As := [.int i]) (rest := []) E hZ hml hl.1 lk_X_59 me_X_isService st_X_isService (c_X_isService l g M0 i) ⟨Nat.le_of_ble_eq_true rfl, Nat.le_of_ble_eq_true rfl⟩ rfl (Nat.le_of_ble_eq_true rfl) d_X_percentile_1 ⟨Nat.le_of_ble_eq_true rfl, Nat.le_of_ble_eq_true rfl⟩) hZ (fun r1 M1 H locs hp hZ => ?_)
  rw [hp.1] at hZ
  replace hp := hp.2
  refine lv_if_eq (tgt := 18) hx hb d_X_percentile_4 (by decide) (fun c4 => ?_) (fun c4 => ?_)
  · refine lv_ldc2 (v := (-102)) hx hb E.2.2.1 (E.2.2.2.1 _ w_477) d_X_percentile_18 ?_
    exact mm_lret (v := (-102)) E hr hlk eQ hZ d_X_percentile_21 ⟨_, rfl, rfl, Or.inl ⟨fun z => b32_eq0.mp (hp ▸ c4) z.1, rfl⟩⟩
  · have hsv := b32_ne0 (hp ▸ c4)
    clear hp
    refine lv_iload_n hx hb d_X_percentile_7 rfl (lv_at hl 2 rfl) ?_
    refine lv_if_lt (tgt := 18) hx hb d_X_percentile_8 (by decide) (fun c8 => ?_) (fun c8 => ?_)
    · refine lv_ldc2 (v := (-102)) hx hb E.2.2.1 (E.2.2.2.1 _ w_477) d_X_percentile_18 ?_
      exact mm_lret (v := (-102)) E hr hlk eQ hZ d_X_percentile_21 ⟨_, rfl, rfl, Or.inl ⟨fun z => absurd z.2.1 (Int32.not_le.mpr c8), rfl⟩⟩
    · refine lv_iload_n hx hb d_X_percentile_11 rfl (lv_at hl 2 rfl) ?_
      refine lv_sipush (v := 1000) hx hb d_X_percentile_12 (by decide) ?_
      refine lv_icmp_le (tgt := 22) hx hb d_X_percentile_15 (by decide) (fun c15 => ?_) (fun c15 => ?_)
      · refine lv_aload_n hx hb d_X_percentile_22 rfl (lv_at hl 0 rfl) ?_
        refine mm_get E hZ cl_X fl_X_40 (by decide) hox rfl d_X_percentile_23 ?_
        refine lv_iload_n hx hb d_X_percentile_26 rfl (lv_at hl 1 rfl) ?_
        refine mm_calli (mm_runV (As := [.int i]) (rest := []) E hZ hml hl.1 lk_X_147 me_Deliv_countOf in_Deliv_countOf (c_Deliv_countOf l g h0 hc i) h0.1 cl_Deliv.1 ⟨Nat.le_of_ble_eq_true rfl, Nat.le_of_ble_eq_true rfl⟩ rfl (Nat.le_of_ble_eq_true rfl) d_X_percentile_27 ⟨Nat.le_of_ble_eq_true rfl, Nat.le_of_ble_eq_true rfl⟩) hZ (fun r2 M1 H locs hp hZ => ?_)
        rw [hp.1] at hZ
        replace hp := hp.2
        subst hp
        refine lv_istore_n (lv' := [(3, .int (nI (cnt fs i c))), (0, .ref x), (1, .int i), (2, .int th)]) hx hb d_X_percentile_30 rfl hl (by decide) rfl (fun ls hl => ?_)
        refine lv_iload_n hx hb d_X_percentile_31 rfl (lv_at hl 0 rfl) ?_
        refine lv_iload_n hx hb d_X_percentile_32 rfl (lv_at hl 3 rfl) ?_
        refine lv_imul hx hb d_X_percentile_33 ?_
        refine lv_sipush (v := 1000) hx hb d_X_percentile_34 (by decide) ?_
        refine lv_iadd hx hb d_X_percentile_37 ?_
        refine lv_iconst (v := 1) hx hb d_X_percentile_38 (by decide) ?_
        refine lv_isub hx hb d_X_percentile_39 ?_
        refine lv_sipush (v := 1000) hx hb d_X_percentile_40 (by decide) ?_
        refine lv_idiv hx hb d_X_percentile_43 (by decide) ?_
        refine lv_istore (lv' := [(4, .int (((((nI (cnt fs i c)) * th) + 1000) - 1) / (1000))), (3, .int (nI (cnt fs i c))), (0, .ref x), (1, .int i), (2, .int th)]) hx hb d_X_percentile_44 hl (by decide) rfl (fun ls hl => ?_)
        refine lv_aload_n hx hb d_X_percentile_46 rfl (lv_at hl 2 rfl) ?_
        refine mm_get E hZ cl_X fl_X_40 (by decide) hox rfl d_X_percentile_47 ?_
        refine lv_iload_n hx hb d_X_percentile_50 rfl (lv_at hl 3 rfl) ?_
        refine lv_iload hx hb d_X_percentile_51 (lv_at hl 0 rfl) ?_
        refine lv_iconst (v := 1) hx hb d_X_percentile_53 (by decide) ?_
        refine mm_max E hml hl.1 w_482 (Nat.le_of_ble_eq_true rfl) (Nat.le_of_ble_eq_true rfl) (Nat.le_of_ble_eq_true rfl) (Nat.le_of_ble_eq_true rfl) d_X_percentile_54 ?_
        refine lv_topi (fun rk0 erk => ?_)
        refine mm_calli (mm_runV (As := [.int i, .int rk0]) (rest := []) E hZ hml hl.1 lk_X_155 me_Deliv_daysAtRank in_Deliv_daysAtRank (c_Deliv_daysAtRank l g h0 hc i rk0) h0.1 cl_Deliv.1 ⟨Nat.le_of_ble_eq_true rfl, Nat.le_of_ble_eq_true rfl⟩ rfl (Nat.le_of_ble_eq_true rfl) d_X_percentile_57 ⟨Nat.le_of_ble_eq_true rfl, Nat.le_of_ble_eq_true rfl⟩) hZ (fun rd M1 H locs hp hZ => ?_)
        rw [hp.1] at hZ
        replace hp := hp.2
        refine lv_i2l hx hb d_X_percentile_60 rfl ?_
        exact mm_lret (v := rd.toInt64) E hr hlk eQ hZ d_X_percentile_61 ⟨_, rfl, rfl, Or.inr ⟨⟨hsv, Int32.not_lt.mp c8, c15⟩, rd, rk0, rfl, erk, hp⟩⟩
      · refine lv_ldc2 (v := (-102)) hx hb E.2.2.1 (E.2.2.2.1 _ w_477) d_X_percentile_18 ?_
        exact mm_lret (v := (-102)) E hr hlk eQ hZ d_X_percentile_21 ⟨_, rfl, rfl, Or.inl ⟨fun z => absurd z.2.2 c15, rfl⟩⟩
set_option maxHeartbeats 4000000 in
set_option maxRecDepth 100000 in
theorem c_X_found (l : Launch) (g : mm_G) {M0 : mm_M} {x rl yl tl cn dl ia : Nat} {ck : Int64} (hox : M0 x = some (xob rl yl tl cn dl ia ck)) {fa : Nat → Nat} {v : Nat → itS} (hI : It g M0 ia fa v) (i : Int32) (t : Int64) : Ci l g y_X_found b_X_found 5 .int (rk 2 42 0 0) M0 [.ref x, .int i, .long t] (fun r M' => ((∀ j, j < 200 → i ≠ nI j) ∧ r = (-101) ∧ M' = M0) ∨ ∃ j, j < 200 ∧ i = nI j ∧ ((¬ (0 ≤ t ∧ t ≤ 1000000000 ∧ ((v j).1 = (-1) ∨ (v j).2.2.1 ≤ t)) ∧ r = (-102) ∧ M' = M0) ∨ ((0 ≤ t ∧ t ≤ 1000000000 ∧ ((v j).1 = (-1) ∨ (v j).2.2.1 ≤ t)) ∧ (v j).2.2.2.2.2.2.2 = 0 ∧ r = 0 ∧ M' = M0) ∨ ((0 ≤ t ∧ t ≤ 1000000000 ∧ ((v j).1 = (-1) ∨ (v j).2.2.1 ≤ t)) ∧ ¬ (v j).2.2.2.2.2.2.2 = 0 ∧ r = 1 ∧ M' = mm_up M0 (fa j) (itc (v j).1 (v j).2.1 t 0 (v j).2.2.2.2.1 (v j).2.2.2.2.2.1 0 0)))) := by
  refine mm_enter (by decide) (Nat.le_of_ble_eq_true rfl) (fun pG eV s m args below meth cdx ls Q E hml hr hlk hnm hZ hl eQ => ?_)
  have hx := E.1
  have hb := E.2.1
  have hl : lv_has ls 5 [(0, .ref x), (1, .int i), (2, .long t)] := hl
  obtain ⟨⟨f, hia, hf⟩, hit, hinj⟩ := hI
  refine lv_iload_n hx hb d_X_found_0 rfl (lv_at hl 1 rfl) ?_
  refine mm_calli (mm_runS (As := [.int i]) (rest := []) E hZ hml hl.1 lk_X_68 me_X_isItem st_X_isItem (c_X_isItem l g M0 i) ⟨Nat.le_of_ble_eq_true rfl, Nat.le_of_ble_eq_true rfl⟩ rfl (Nat.le_of_ble_eq_true rfl) d_X_found_1 ⟨Nat.le_of_ble_eq_true rfl, Nat.le_of_ble_eq_true rfl⟩) hZ (fun r1 M1 H locs hp hZ => ?_)
  rw [hp.1] at hZ
  replace hp := hp.2
  refine lv_if_ne (tgt := 10) hx hb d_X_found_4 (by decide) (fun c4 => ?_) (fun c4 => ?_)
  · obtain ⟨j, hj, rfl⟩ := in_it (b32_ne0 (hp ▸ c4))
    clear hp
    refine lv_aload_n hx hb d_X_found_10 rfl (lv_at hl 0 rfl) ?_
    refine mm_get E hZ cl_X fl_X_46 (by decide) hox rfl d_X_found_11 ?_
    refine lv_iload_n hx hb d_X_found_14 rfl (lv_at hl 1 rfl) ?_
    refine mm_aald (t0 := 3) E hZ hia rfl rfl (show j < 200 from hj) (by decide) d_X_found_15 ?_
    rw [hf j hj]
    have hej := hit j hj
    show W pG l eV (rk 2 42 0 0) s m args below meth cdx H locs 0 0 Q (F0 m 16 ls [.ref (fa j)])
    refine lv_astore (lv' := [(4, .ref (fa j)), (0, .ref x), (1, .int (nI j)), (2, .long t)]) hx hb d_X_found_16 hl (by decide) rfl (fun ls hl => ?_)
    refine lv_aload hx hb d_X_found_18 (lv_at hl 0 rfl) ?_
    refine lv_lload_n hx hb d_X_found_20 rfl (lv_at hl 3 rfl) ?_
    refine mm_calli (mm_runV (As := [.long t]) (rest := []) E hZ hml hl.1 lk_X_71 me_Item_mayComeAt in_Item_mayComeAt (c_Item_mayComeAt l g hej t) hej cl_Item.1 ⟨Nat.le_of_ble_eq_true rfl, Nat.le_of_ble_eq_true rfl⟩ rfl (Nat.le_of_ble_eq_true rfl) d_X_found_21 ⟨Nat.le_of_ble_eq_true rfl, Nat.le_of_ble_eq_true rfl⟩) hZ (fun r2 M1 H locs hp hZ => ?_)
    rw [hp.1] at hZ
    replace hp := hp.2
    refine lv_if_ne (tgt := 30) hx hb d_X_found_24 (by decide) (fun c24 => ?_) (fun c24 => ?_)
    · have hmay := b32_ne0 (hp ▸ c24)
      refine lv_aload hx hb d_X_found_30 (lv_at hl 0 rfl) ?_
      refine mm_get E hZ cl_Item fl_X_158 (by decide) hej rfl d_X_found_32 ?_
      refine lv_if_ne (tgt := 40) hx hb d_X_found_35 (by decide) (fun c35 => ?_) (fun c35 => ?_)
      · refine lv_aload hx hb d_X_found_40 (lv_at hl 0 rfl) ?_
        refine mm_callv (mm_runV (As := []) (rest := []) E hZ hml hl.1 lk_X_75 me_Item_expectNothing in_Item_expectNothing (c_Item_expectNothing l g hej) hej cl_Item.1 ⟨Nat.le_of_ble_eq_true rfl, Nat.le_of_ble_eq_true rfl⟩ rfl (Nat.le_of_ble_eq_true rfl) d_X_found_42 ⟨Nat.le_of_ble_eq_true rfl, Nat.le_of_ble_eq_true rfl⟩) hZ (fun Mx H locs hp hZ => ?_)
        have hej2 := (congrFun hp (fa j)).trans (mm_self _ _ _)
        refine lv_aload hx hb d_X_found_45 (lv_at hl 0 rfl) ?_
        refine lv_lload_n hx hb d_X_found_47 rfl (lv_at hl 3 rfl) ?_
        refine mm_put E hZ cl_Item fl_X_162 (by decide) rfl hej2 (by decide) rfl rfl (Nat.le_of_ble_eq_true rfl) d_X_found_48 (fun H locs hZ => ?_)
        obtain ⟨M4, eM4⟩ : ∃ zz : mm_M, zz = mm_up Mx (fa j) (ob 7 5 [.int ((v j).1), .long ((v j).2.1), .long t, .int 0, .int ((v j).2.2.2.2.1), .long ((v j).2.2.2.2.2.1), .int 0, .int 0]) := ⟨_, rfl⟩
        have hZ : mm_S g s M4 H locs := by rw [eM4]; exact hZ
        have h5 := (congrFun eM4 (fa j)).trans (mm_self _ _ _)
        refine lv_iconst (v := 1) hx hb d_X_found_51 (by decide) ?_
        exact mm_iret (v := 1) E hr hlk eQ hZ d_X_found_52 ⟨_, rfl, Or.inr ⟨j, hj, rfl, Or.inr (Or.inr ⟨hmay, c35, rfl, by rw [eM4, hp, mm_uu]⟩)⟩⟩
      · refine lv_iconst (v := 0) hx hb d_X_found_38 (by decide) ?_
        exact mm_iret (v := 0) E hr hlk eQ hZ d_X_found_39 ⟨_, rfl, Or.inr ⟨j, hj, rfl, Or.inr (Or.inl ⟨hmay, c35, rfl, rfl⟩)⟩⟩
    · refine lv_bipush (v := (-102)) hx hb d_X_found_27 (by decide) ?_
      exact mm_iret (v := (-102)) E hr hlk eQ hZ d_X_found_29 ⟨_, rfl, Or.inr ⟨j, hj, rfl, Or.inl ⟨b32_eq0.mp (hp ▸ c24), rfl, rfl⟩⟩⟩
  · refine lv_bipush (v := (-101)) hx hb d_X_found_7 (by decide) ?_
    exact mm_iret (v := (-101)) E hr hlk eQ hZ d_X_found_9 ⟨_, rfl, Or.inl ⟨fun j hj z => b32_eq0.mp (hp ▸ c4) (z ▸ it_in hj), rfl, rfl⟩⟩
set_option maxHeartbeats 4000000 in
set_option maxRecDepth 100000 in
theorem c_X_expectNext0 (l : Launch) (g : mm_G) {M0 : mm_M} {x it : Nat} (pl : Int32) (t : Int64) : Ci l g y_X_expectNext b_X_expectNext 6 .int (rk 8 192 0 0) M0 [.ref x, .ref it, .null, .int pl, .long t] (fun r M' => M' = M0 ∧ r = 0) := by
  refine mm_enter (by decide) (Nat.le_of_ble_eq_true rfl) (fun pG eV s m args below meth cdx ls Q E hml hr hlk hnm hZ hl eQ => ?_)
  have hx := E.1
  have hb := E.2.1
  have hl : lv_has ls 6 [(0, .ref x), (1, .ref it), (2, .null), (3, .int pl), (4, .long t)] := hl
  refine lv_aload_nN hx hb d_X_expectNext_0 rfl (lv_at hl 2 rfl) ?_
  refine lv_ifnonnullN hx hb d_X_expectNext_1 ?_
  refine lv_iconst (v := 0) hx hb d_X_expectNext_4 (by decide) ?_
  exact mm_iret (v := 0) E hr hlk eQ hZ d_X_expectNext_5 ⟨_, rfl, rfl, rfl⟩
set_option maxHeartbeats 4000000 in
set_option maxRecDepth 100000 in
theorem c_X_event0 (l : Launch) (g : mm_G) {M0 : mm_M} {x rl yl tl cn dl ia : Nat} {ck : Int64} (hox : M0 x = some (xob rl yl tl cn dl ia ck)) {fa : Nat → Nat} {v : Nat → itS} (hI : It g M0 ia fa v) {la lf n cf nf : Nat} {ad af : Nat → Nat} (h0 : Rl g M0 rl la lf 0 n cf nf ad af) {dA2 sA cd : Nat} {fd fs : Nat → Int32} (hD : Dl g M0 dl dA2 sA cd fd fs) (hcd : cd < 512) (i st pl sv : Int32) (t : Int64) : Ci l g y_X_event b_X_event 8 .int (rk 9 217 0 0) M0 [.ref x, .int i, .int st, .int pl, .int sv, .long t] (fun r M' => ((∀ k q, k < 200 → q < 50 → ¬ (i = nI k ∧ pl = nI q)) ∧ r = (-101) ∧ ∀ u, 19 ≤ u → mm_same u M0 M') ∨ ∃ j p, j < 200 ∧ p < 50 ∧ i = nI j ∧ pl = nI p ∧ ((¬ (0 ≤ st ∧ st ≤ 9 ∧ (0 ≤ sv ∧ sv < 5) ∧ (0 ≤ t ∧ t ≤ 1000000000 ∧ ((v j).1 = (-1) ∨ (v j).2.2.1 ≤ t))) ∧ r = (-102) ∧ ∀ u, 19 ≤ u → mm_same u M0 M') ∨ ((0 ≤ st ∧ st ≤ 9 ∧ (0 ≤ sv ∧ sv < 5) ∧ (0 ≤ t ∧ t ≤ 1000000000 ∧ ((v j).1 = (-1) ∨ (v j).2.2.1 ≤ t))) ∧ r = 0 ∧ ∀ u, 19 ≤ u → mm_same u M0 M'))) := by
  refine mm_enter (by decide) (Nat.le_of_ble_eq_true rfl) (fun pG eV s m args below meth cdx ls Q E hml hr hlk hnm hZ hl eQ => ?_)
  have hx := E.1
  have hb := E.2.1
  have hl : lv_has ls 8 [(0, .ref x), (1, .int i), (2, .int st), (3, .int pl), (4, .int sv), (5, .long t)] := hl
  obtain ⟨⟨f, hia, hf⟩, hit, hinj⟩ := hI
  refine lv_iload_n hx hb d_X_event_0 rfl (lv_at hl 1 rfl) ?_
  refine mm_calli (mm_runS (As := [.int i]) (rest := []) E hZ hml hl.1 lk_X_68 me_X_isItem st_X_isItem (c_X_isItem l g M0 i) ⟨Nat.le_of_ble_eq_true rfl, Nat.le_of_ble_eq_true rfl⟩ rfl (Nat.le_of_ble_eq_true rfl) d_X_event_1 ⟨Nat.le_of_ble_eq_true rfl, Nat.le_of_ble_eq_true rfl⟩) hZ (fun ri M1 H locs hp hZ => ?_)
  rw [hp.1] at hZ
  replace hp := hp.2
  refine lv_if_eq (tgt := 14) hx hb d_X_event_4 (by decide) (fun c4 => ?_) (fun c4 => ?_)
  · refine lv_bipush (v := (-101)) hx hb d_X_event_14 (by decide) ?_
    exact mm_iret (v := (-101)) E hr hlk eQ hZ d_X_event_16 ⟨_, rfl, Or.inl ⟨fun k q hk hq z => b32_eq0.mp (hp ▸ c4) (z.1 ▸ it_in hk), rfl, fun u _ => mm_same.rf⟩⟩
  · obtain ⟨j, hj, rfl⟩ := in_it (b32_ne0 (hp ▸ c4))
    clear hp
    refine lv_iload_n hx hb d_X_event_7 rfl (lv_at hl 3 rfl) ?_
    refine mm_calli (mm_runS (As := [.int pl]) (rest := []) E hZ hml hl.1 lk_X_55 me_X_isPlace st_X_isPlace (c_X_isPlace l g M0 pl) ⟨Nat.le_of_ble_eq_true rfl, Nat.le_of_ble_eq_true rfl⟩ rfl (Nat.le_of_ble_eq_true rfl) d_X_event_8 ⟨Nat.le_of_ble_eq_true rfl, Nat.le_of_ble_eq_true rfl⟩) hZ (fun r1 M1 H locs hp hZ => ?_)
    rw [hp.1] at hZ
    replace hp := hp.2
    refine lv_if_ne (tgt := 17) hx hb d_X_event_11 (by decide) (fun c11 => ?_) (fun c11 => ?_)
    · obtain ⟨p, hp5, rfl⟩ := in_pl (b32_ne0 (hp ▸ c11))
      clear hp
      refine lv_aload_n hx hb d_X_event_17 rfl (lv_at hl 0 rfl) ?_
      refine mm_get E hZ cl_X fl_X_46 (by decide) hox rfl d_X_event_18 ?_
      refine lv_iload_n hx hb d_X_event_21 rfl (lv_at hl 1 rfl) ?_
      refine mm_aald (t0 := 3) E hZ hia rfl rfl (show j < 200 from hj) (by decide) d_X_event_22 ?_
      rw [hf j hj]
      have hej := hit j hj
      show W pG l eV (rk 9 217 0 0) s m args below meth cdx H locs 0 0 Q (F0 m 23 ls [.ref (fa j)])
      refine lv_astore (lv' := [(7, .ref (fa j)), (0, .ref x), (1, .int (nI j)), (2, .int st), (3, .int (nI p)), (4, .int sv), (5, .long t)]) hx hb d_X_event_23 hl (by decide) rfl (fun ls hl => ?_)
      refine lv_iload_n hx hb d_X_event_25 rfl (lv_at hl 3 rfl) ?_
      refine lv_if_lt (tgt := 53) hx hb d_X_event_26 (by decide) (fun c26 => ?_) (fun c26 => ?_)
      · refine lv_bipush (v := (-102)) hx hb d_X_event_53 (by decide) ?_
        exact mm_iret (v := (-102)) E hr hlk eQ hZ d_X_event_55 ⟨_, rfl, Or.inr ⟨j, p, hj, hp5, rfl, rfl, Or.inl ⟨fun z => absurd z.1 (Int32.not_le.mpr c26), rfl, fun u _ => mm_same.rf⟩⟩⟩
      · refine lv_iload_n hx hb d_X_event_29 rfl (lv_at hl 3 rfl) ?_
        refine lv_bipush (v := 9) hx hb d_X_event_30 (by decide) ?_
        refine lv_icmp_gt (tgt := 53) hx hb d_X_event_32 (by decide) (fun c32 => ?_) (fun c32 => ?_)
        · refine lv_bipush (v := (-102)) hx hb d_X_event_53 (by decide) ?_
          exact mm_iret (v := (-102)) E hr hlk eQ hZ d_X_event_55 ⟨_, rfl, Or.inr ⟨j, p, hj, hp5, rfl, rfl, Or.inl ⟨fun z => absurd z.2.1 (Int32.not_le.mpr c32), rfl, fun u _ => mm_same.rf⟩⟩⟩
        · refine lv_iload hx hb d_X_event_35 (lv_at hl 5 rfl) ?_
          refine mm_calli (mm_runS (As := [.int sv]) (rest := []) E hZ hml hl.1 lk_X_59 me_X_isService st_X_isService (c_X_isService l g M0 sv) ⟨Nat.le_of_ble_eq_true rfl, Nat.le_of_ble_eq_true rfl⟩ rfl (Nat.le_of_ble_eq_true rfl) d_X_event_37 ⟨Nat.le_of_ble_eq_true rfl, Nat.le_of_ble_eq_true rfl⟩) hZ (fun r2 M1 H locs hp hZ => ?_)
          rw [hp.1] at hZ
          replace hp := hp.2
          refine lv_if_eq (tgt := 53) hx hb d_X_event_40 (by decide) (fun c40 => ?_) (fun c40 => ?_)
          · refine lv_bipush (v := (-102)) hx hb d_X_event_53 (by decide) ?_
            exact mm_iret (v := (-102)) E hr hlk eQ hZ d_X_event_55 ⟨_, rfl, Or.inr ⟨j, p, hj, hp5, rfl, rfl, Or.inl ⟨fun z => b32_eq0.mp (hp ▸ c40) z.2.2.1, rfl, fun u _ => mm_same.rf⟩⟩⟩
          · have hsv := b32_ne0 (hp ▸ c40)
            clear hp
            refine lv_aload hx hb d_X_event_43 (lv_at hl 0 rfl) ?_
            refine lv_lload hx hb d_X_event_45 (lv_at hl 6 rfl) ?_
            refine mm_calli (mm_runV (As := [.long t]) (rest := []) E hZ hml hl.1 lk_X_71 me_Item_mayComeAt in_Item_mayComeAt (c_Item_mayComeAt l g hej t) hej cl_Item.1 ⟨Nat.le_of_ble_eq_true rfl, Nat.le_of_ble_eq_true rfl⟩ rfl (Nat.le_of_ble_eq_true rfl) d_X_event_47 ⟨Nat.le_of_ble_eq_true rfl, Nat.le_of_ble_eq_true rfl⟩) hZ (fun r3 M1 H locs hp hZ => ?_)
            rw [hp.1] at hZ
            replace hp := hp.2
            refine lv_if_ne (tgt := 56) hx hb d_X_event_50 (by decide) (fun c50 => ?_) (fun c50 => ?_)
            · have hmay := b32_ne0 (hp ▸ c50)
              clear hp
              have hOK : 0 ≤ st ∧ st ≤ 9 ∧ (0 ≤ sv ∧ sv < 5) ∧ (0 ≤ t ∧ t ≤ 1000000000 ∧ ((v j).1 = (-1) ∨ (v j).2.2.1 ≤ t)) := ⟨Int32.not_lt.mp c26, Int32.not_lt.mp c32, hsv, hmay⟩
              refine lv_aload hx hb d_X_event_56 (lv_at hl 0 rfl) ?_
              refine mm_callv (mm_runV (As := []) (rest := []) E hZ hml hl.1 lk_X_75 me_Item_expectNothing in_Item_expectNothing (c_Item_expectNothing l g hej) hej cl_Item.1 ⟨Nat.le_of_ble_eq_true rfl, Nat.le_of_ble_eq_true rfl⟩ rfl (Nat.le_of_ble_eq_true rfl) d_X_event_58 ⟨Nat.le_of_ble_eq_true rfl, Nat.le_of_ble_eq_true rfl⟩) hZ (fun Mx H locs hp hZ => ?_)
              have hej2 := (congrFun hp (fa j)).trans (mm_self _ _ _)
              have hs1 : ∀ u, u ≠ 7 → mm_same u M0 Mx := fun u hu => by rw [hp]; exact mm_same.up hej hu _
              have hox2 := hs1 1 (by decide) _ _ hox
              have hDl2 := hD.kept (M' := Mx) (fun u hu => hs1 u (by rcases hu with rfl | rfl | rfl <;> decide))
              have hRl2 := h0.kept (M' := Mx) (fun u hu => hs1 u (by rcases hu with rfl | rfl | rfl <;> decide))
              refine lv_iload_n hx hb d_X_event_61 rfl (lv_at hl 3 rfl) ?_
              refine lv_bipush (v := 9) hx hb d_X_event_62 (by decide) ?_
              refine lv_icmp_ne (tgt := 90) hx hb d_X_event_64 (by decide) (fun c64 => ?_) (fun c64 => ?_)
              · refine lv_aload hx hb d_X_event_90 (lv_at hl 0 rfl) ?_
                refine lv_iload_n hx hb d_X_event_92 rfl (lv_at hl 3 rfl) ?_
                refine lv_lload hx hb d_X_event_93 (lv_at hl 6 rfl) ?_
                refine mm_callv (mm_runV (As := [.int st, .long t]) (rest := []) E hZ hml hl.1 lk_X_89 me_Item_takeEvent in_Item_takeEvent (c_Item_takeEvent l g hej2 st t) hej2 cl_Item.1 ⟨Nat.le_of_ble_eq_true rfl, Nat.le_of_ble_eq_true rfl⟩ rfl (Nat.le_of_ble_eq_true rfl) d_X_event_95 ⟨Nat.le_of_ble_eq_true rfl, Nat.le_of_ble_eq_true rfl⟩) hZ (fun My H locs hp hZ => ?_)
                have hs3 : ∀ u, u ≠ 7 → mm_same u Mx My := fun u hu => by rw [hp]; exact mm_same.up hej2 hu _
                have hox3 := hs3 1 (by decide) _ _ hox2
                have hRl3 := hRl2.kept (M' := My) (fun u hu => hs3 u (by rcases hu with rfl | rfl | rfl <;> decide))
                clear hp
                refine lv_aload_n hx hb d_X_event_98 rfl (lv_at hl 1 rfl) ?_
                refine lv_aload hx hb d_X_event_99 (lv_at hl 0 rfl) ?_
                refine lv_aload_n hx hb d_X_event_101 rfl (lv_at hl 1 rfl) ?_
                refine mm_get E hZ cl_X fl_X_10 (by decide) hox3 rfl d_X_event_102 ?_
                refine lv_iload_n hx hb d_X_event_105 rfl (lv_at hl 3 rfl) ?_
                refine lv_iload_n hx hb d_X_event_106 rfl (lv_at hl 4 rfl) ?_
                refine lv_iload hx hb d_X_event_107 (lv_at hl 5 rfl) ?_
                refine mm_callq (mm_runV (As := [.int st, .int (nI p), .int sv]) (rest := [.ref (fa j), .ref x]) E hZ hml hl.1 lk_X_93 me_RowL_firstFor in_RowL_firstFor (c_RowL_firstFor0 l g hRl3 st (nI p) sv) hRl3.1 cl_RowL.1 ⟨Nat.le_of_ble_eq_true rfl, Nat.le_of_ble_eq_true rfl⟩ rfl (Nat.le_of_ble_eq_true rfl) d_X_event_109 ⟨Nat.le_of_ble_eq_true rfl, Nat.le_of_ble_eq_true rfl⟩) hZ (fun rq M1 H locs hp hZ => ?_)
                rw [hp.1] at hZ
                replace hp := hp.2
                subst hp
                refine lv_iload_n hx hb d_X_event_112 rfl (lv_at hl 4 rfl) ?_
                refine lv_lload hx hb d_X_event_113 (lv_at hl 6 rfl) ?_
                refine mm_calli (mm_runV (As := [.ref (fa j), .null, .int (nI p), .long t]) (rest := []) E hZ hml hl.1 lk_X_97 me_X_expectNext in_X_expectNext (c_X_expectNext0 l g (nI p) t) hox3 cl_X.1 ⟨Nat.le_of_ble_eq_true rfl, Nat.le_of_ble_eq_true rfl⟩ rfl (Nat.le_of_ble_eq_true rfl) d_X_event_115 ⟨Nat.le_of_ble_eq_true rfl, Nat.le_of_ble_eq_true rfl⟩) hZ (fun r6 M1 H locs hp hZ => ?_)
                rw [hp.1] at hZ
                replace hp := hp.2
                subst hp
                exact mm_iret (v := 0) E hr hlk eQ hZ d_X_event_118 ⟨_, rfl, Or.inr ⟨j, p, hj, hp5, rfl, rfl, Or.inr ⟨hOK, rfl, fun u hu => (hs1 u (by omega)).tr (hs3 u (by omega))⟩⟩⟩
              · refine lv_aload_n hx hb d_X_event_67 rfl (lv_at hl 1 rfl) ?_
                refine mm_get E hZ cl_X fl_X_40 (by decide) hox2 rfl d_X_event_68 ?_
                refine lv_iload hx hb d_X_event_71 (lv_at hl 5 rfl) ?_
                refine lv_aload hx hb d_X_event_73 (lv_at hl 0 rfl) ?_
                refine lv_lload hx hb d_X_event_75 (lv_at hl 6 rfl) ?_
                refine mm_calli (mm_runV (As := [.long t]) (rest := [.int sv, .ref dl]) E hZ hml hl.1 lk_X_78 me_Item_daysUntil in_Item_daysUntil (c_Item_daysUntil l g hej2 t) hej2 cl_Item.1 ⟨Nat.le_of_ble_eq_true rfl, Nat.le_of_ble_eq_true rfl⟩ rfl (Nat.le_of_ble_eq_true rfl) d_X_event_77 ⟨Nat.le_of_ble_eq_true rfl, Nat.le_of_ble_eq_true rfl⟩) hZ (fun rd M1 H locs hp hZ => ?_)
                rw [hp.1] at hZ
                replace hp := hp.2
                refine mm_callv (mm_runV (As := [.int sv, .int rd]) (rest := []) E hZ hml hl.1 lk_X_82 me_Deliv_addDelivery in_Deliv_addDelivery (c_Deliv_addDelivery l g hDl2 hcd sv rd) hDl2.1 cl_Deliv.1 ⟨Nat.le_of_ble_eq_true rfl, Nat.le_of_ble_eq_true rfl⟩ rfl (Nat.le_of_ble_eq_true rfl) d_X_event_80 ⟨Nat.le_of_ble_eq_true rfl, Nat.le_of_ble_eq_true rfl⟩) hZ (fun My H locs hp hZ => ?_)
                obtain ⟨fd2, fs2, hD3, _, hs3⟩ := hp
                have hej3 := hs3 7 (by decide) (by decide) (by decide) _ _ hej2
                refine lv_aload hx hb d_X_event_83 (lv_at hl 0 rfl) ?_
                refine mm_callv (mm_runV (As := []) (rest := []) E hZ hml hl.1 lk_X_86 me_Item_beginAnew in_Item_beginAnew (c_Item_beginAnew l g hej3) hej3 cl_Item.1 ⟨Nat.le_of_ble_eq_true rfl, Nat.le_of_ble_eq_true rfl⟩ rfl (Nat.le_of_ble_eq_true rfl) d_X_event_85 ⟨Nat.le_of_ble_eq_true rfl, Nat.le_of_ble_eq_true rfl⟩) hZ (fun Mz H locs hp hZ => ?_)
                refine lv_iconst (v := 0) hx hb d_X_event_88 (by decide) ?_
                exact mm_iret (v := 0) E hr hlk eQ hZ d_X_event_89 ⟨_, rfl, Or.inr ⟨j, p, hj, hp5, rfl, rfl, Or.inr ⟨hOK, rfl, fun u hu => ((hs1 u (by omega)).tr (hs3 u (by omega) (by omega) (by omega))).tr (by rw [hp]; exact mm_same.up hej3 (by omega) _)⟩⟩⟩
            · refine lv_bipush (v := (-102)) hx hb d_X_event_53 (by decide) ?_
              exact mm_iret (v := (-102)) E hr hlk eQ hZ d_X_event_55 ⟨_, rfl, Or.inr ⟨j, p, hj, hp5, rfl, rfl, Or.inl ⟨fun z => b32_eq0.mp (hp ▸ c50) z.2.2.2, rfl, fun u _ => mm_same.rf⟩⟩⟩
    · refine lv_bipush (v := (-101)) hx hb d_X_event_14 (by decide) ?_
      exact mm_iret (v := (-101)) E hr hlk eQ hZ d_X_event_16 ⟨_, rfl, Or.inl ⟨fun k q hk hq z => b32_eq0.mp (hp ▸ c11) (z.2 ▸ pl_in hq), rfl, fun u _ => mm_same.rf⟩⟩
set_option maxHeartbeats 4000000 in
set_option maxRecDepth 100000 in
theorem c_X_tellLate0 (l : Launch) (g : mm_G) {M0 : mm_M} {x b : Nat} {st : Int32} {fi la : Int64} {pl : Int32} {du : Int64} {lt lo : Int32} (h : M0 b = some (itc st fi la 0 pl du lt lo)) (i : Int32) : Cv l g y_X_tellLate b_X_tellLate 3 (rk 8 194 0 0) M0 [.ref x, .int i, .ref b] (fun M' => M' = M0) := by
  refine mm_enter (by decide) (Nat.le_of_ble_eq_true rfl) (fun pG eV s m args below meth cdx ls Q E hml hr hlk hnm hZ hl eQ => ?_)
  have hx := E.1
  have hb := E.2.1
  have hl : lv_has ls 3 [(0, .ref x), (1, .int i), (2, .ref b)] := hl
  refine lv_aload_n hx hb d_X_tellLate_0 rfl (lv_at hl 2 rfl) ?_
  refine mm_calli (mm_runV (As := []) (rest := []) E hZ hml hl.1 lk_X_199 me_Item_isExpected in_Item_isExpected (c_Item_isExpected l g h) h cl_Item.1 ⟨Nat.le_of_ble_eq_true rfl, Nat.le_of_ble_eq_true rfl⟩ rfl (Nat.le_of_ble_eq_true rfl) d_X_tellLate_1 ⟨Nat.le_of_ble_eq_true rfl, Nat.le_of_ble_eq_true rfl⟩) hZ (fun r1 M1 H locs hp hZ => ?_)
  rw [hp.1] at hZ
  replace hp := hp.2
  refine lv_if_eq (tgt := 52) hx hb d_X_tellLate_4 (by decide) (fun c4 => ?_) (fun c4 => ?_)
  · exact mm_vret E hr hlk eQ hZ d_X_tellLate_52 ⟨rfl, rfl⟩
  · exact absurd (hp ▸ c4) (by simp [b32])
set_option maxHeartbeats 4000000 in
set_option maxRecDepth 100000 in
theorem c_X_tellLost0 (l : Launch) (g : mm_G) {M0 : mm_M} {x b : Nat} {st : Int32} {fi la : Int64} {pl : Int32} {du : Int64} {lt lo : Int32} (h : M0 b = some (itc st fi la 0 pl du lt lo)) (i : Int32) : Cv l g y_X_tellLost b_X_tellLost 3 (rk 8 194 0 0) M0 [.ref x, .int i, .ref b] (fun M' => M' = M0) := by
  refine mm_enter (by decide) (Nat.le_of_ble_eq_true rfl) (fun pG eV s m args below meth cdx ls Q E hml hr hlk hnm hZ hl eQ => ?_)
  have hx := E.1
  have hb := E.2.1
  have hl : lv_has ls 3 [(0, .ref x), (1, .int i), (2, .ref b)] := hl
  refine lv_aload_n hx hb d_X_tellLost_0 rfl (lv_at hl 2 rfl) ?_
  refine mm_calli (mm_runV (As := []) (rest := []) E hZ hml hl.1 lk_X_199 me_Item_isExpected in_Item_isExpected (c_Item_isExpected l g h) h cl_Item.1 ⟨Nat.le_of_ble_eq_true rfl, Nat.le_of_ble_eq_true rfl⟩ rfl (Nat.le_of_ble_eq_true rfl) d_X_tellLost_1 ⟨Nat.le_of_ble_eq_true rfl, Nat.le_of_ble_eq_true rfl⟩) hZ (fun r1 M1 H locs hp hZ => ?_)
  rw [hp.1] at hZ
  replace hp := hp.2
  refine lv_if_eq (tgt := 45) hx hb d_X_tellLost_4 (by decide) (fun c4 => ?_) (fun c4 => ?_)
  · exact mm_vret E hr hlk eQ hZ d_X_tellLost_45 ⟨rfl, rfl⟩
  · exact absurd (hp ▸ c4) (by simp [b32])
set_option maxHeartbeats 4000000 in
set_option maxRecDepth 100000 in
theorem c_X_tick0 (l : Launch) (g : mm_G) {M0 : mm_M} {x rl yl tl cn dl ia : Nat} {ck : Int64} (hox : M0 x = some (xob rl yl tl cn dl ia ck)) {fa : Nat → Nat} {v : Nat → itS} (hI : It g M0 ia fa v) (hro : ∀ k, k < 200 → (v k).2.2.2.1 = 0) {lt ct n : Nat} {ad : Nat → Nat} {F : Nat → Nat → Int32} (h0 : Tl g M0 tl lt ct n ad F) (t : Int64) : Ci l g y_X_tick b_X_tick 5 .int (rk 9 216 0 0) M0 [.ref x, .long t] (fun r M' => (¬ (ck ≤ t ∧ t ≤ 2000000000) ∧ r = (-102) ∧ M' = M0) ∨ ((ck ≤ t ∧ t ≤ 2000000000) ∧ r = 0 ∧ M' = mm_up M0 x (xob rl yl tl cn dl ia t))) := by
  refine mm_enter (by decide) (Nat.le_of_ble_eq_true rfl) (fun pG eV s m args below meth cdx ls Q E hml hr hlk hnm hZ hl eQ => ?_)
  have hx := E.1
  have hb := E.2.1
  have hl : lv_has ls 5 [(0, .ref x), (1, .long t)] := hl
  obtain ⟨⟨f, hia, hf⟩, hit, hinj⟩ := hI
  refine lv_lload_n hx hb d_X_tick_0 rfl (lv_at hl 1 rfl) ?_
  refine lv_aload_n hx hb d_X_tick_1 rfl (lv_at hl 0 rfl) ?_
  refine mm_get E hZ cl_X fl_X_50 (by decide) hox rfl d_X_tick_2 ?_
  refine W.lcmp hx hb d_X_tick_5 ?_
  refine lv_if_lt (tgt := 17) hx hb d_X_tick_6 (by decide) (fun c6 => ?_) (fun c6 => ?_)
  · have c6 := (lg_cmp_lt _ _).mp c6
    refine lv_bipush (v := (-102)) hx hb d_X_tick_17 (by decide) ?_
    exact mm_iret (v := (-102)) E hr hlk eQ hZ d_X_tick_19 ⟨_, rfl, Or.inl ⟨fun z => absurd z.1 (Int64.not_le.mpr c6), rfl, rfl⟩⟩
  · have c6 := mt (lg_cmp_lt _ _).mpr c6
    refine lv_lload_n hx hb d_X_tick_9 rfl (lv_at hl 1 rfl) ?_
    refine lv_ldc2 (v := 2000000000) hx hb E.2.2.1 (E.2.2.2.1 _ w_388) d_X_tick_10 ?_
    refine W.lcmp hx hb d_X_tick_13 ?_
    refine lv_if_le (tgt := 20) hx hb d_X_tick_14 (by decide) (fun c14 => ?_) (fun c14 => ?_)
    · have c14 := (lg_cmp_le _ _).mp c14
      refine lv_aload_n hx hb d_X_tick_20 rfl (lv_at hl 0 rfl) ?_
      refine lv_lload_n hx hb d_X_tick_21 rfl (lv_at hl 1 rfl) ?_
      refine mm_put E hZ cl_X fl_X_50 (by decide) rfl hox (by decide) rfl rfl (Nat.le_of_ble_eq_true rfl) d_X_tick_22 (fun H locs hZ => ?_)
      obtain ⟨M61, eM61⟩ : ∃ zz : mm_M, zz = mm_up M0 x (ob 1 0 [.ref rl, .ref yl, .ref tl, .ref cn, .ref dl, .ref ia, .long t]) := ⟨_, rfl⟩
      have hZ : mm_S g s M61 H locs := by rw [eM61]; exact hZ
      have h62 := (congrFun eM61 x).trans (mm_self _ _ _)
      refine lv_aload_n hx hb d_X_tick_25 rfl (lv_at hl 0 rfl) ?_
      refine mm_get E hZ cl_X fl_X_26 (by decide) h62 rfl d_X_tick_26 ?_
      have hs1 : ∀ u, u ≠ 1 → mm_same u M0 M61 := fun u hu => by rw [eM61]; exact mm_same.up hox hu _
      have hTl := h0.kept (M' := M61) (fun u hu => hs1 u (by rcases hu with rfl | rfl | rfl <;> decide))
      have hia1 := hs1 18 (by decide) _ _ hia
      have hit1 : ∀ k, k < 200 → M61 (fa k) = some (itE (v k)) := fun k hk => hs1 7 (by decide) _ _ (hit k hk)
      refine mm_calli (mm_runV (As := []) (rest := []) E hZ hml hl.1 lk_X_103 me_AlarmL_size in_AlarmL_size (c_AlarmL_size l g hTl) hTl.1 cl_AlarmL.1 ⟨Nat.le_of_ble_eq_true rfl, Nat.le_of_ble_eq_true rfl⟩ rfl (Nat.le_of_ble_eq_true rfl) d_X_tick_29 ⟨Nat.le_of_ble_eq_true rfl, Nat.le_of_ble_eq_true rfl⟩) hZ (fun r63 M1 H locs hp hZ => ?_)
      rw [hp.1] at hZ
      replace hp := hp.2
      subst hp
      refine lv_istore_n (lv' := [(3, .int (nI ct)), (0, .ref x), (1, .long t)]) hx hb d_X_tick_32 rfl hl (by decide) rfl (fun ls hl => ?_)
      refine lv_iconst (v := 0) hx hb d_X_tick_33 (by decide) ?_
      refine lv_istore (lv' := [(4, .int 0), (3, .int (nI ct)), (0, .ref x), (1, .long t)]) hx hb d_X_tick_34 hl (by decide) rfl (fun ls hl => ?_)
      have loop : ∀ (n : Nat) (k : Nat) (H : Heap) (locs : List Loc) (ls : Array Slot), mm_S g s M61 H locs → k ≤ 200 → 201 ≤ k + n → lv_has ls 5 [(0, .ref x), (3, .int (nI ct)), (4, .int (nI k))] → W pG l eV (rk 9 216 0 0) s m args below meth cdx H locs 0 0 Q (F0 m 36 ls []) := by
        intro n
        induction n with
        | zero => exact fun k H locs ls _ hk1 hfu _ => absurd hfu (by omega)
        | succ n ih =>
          intro k H locs ls hZ hk1 hfu hl
          refine lv_iload hx hb d_X_tick_36 (lv_at hl 2 rfl) ?_
          refine lv_sipush (v := 200) hx hb d_X_tick_38 (by decide) ?_
          refine lv_icmp_ge (tgt := 76) hx hb d_X_tick_41 (by decide) (fun c41 => ?_) (fun c41 => ?_)
          · refine lv_aload_n hx hb d_X_tick_76 rfl (lv_at hl 0 rfl) ?_
            refine mm_get E hZ cl_X fl_X_26 (by decide) h62 rfl d_X_tick_77 ?_
            refine mm_calli (mm_runV (As := []) (rest := []) E hZ hml hl.1 lk_X_103 me_AlarmL_size in_AlarmL_size (c_AlarmL_size l g hTl) hTl.1 cl_AlarmL.1 ⟨Nat.le_of_ble_eq_true rfl, Nat.le_of_ble_eq_true rfl⟩ rfl (Nat.le_of_ble_eq_true rfl) d_X_tick_80 ⟨Nat.le_of_ble_eq_true rfl, Nat.le_of_ble_eq_true rfl⟩) hZ (fun r64 M1 H locs hp hZ => ?_)
            rw [hp.1] at hZ
            replace hp := hp.2
            subst hp
            refine lv_iload_n hx hb d_X_tick_83 rfl (lv_at hl 1 rfl) ?_
            refine lv_isub hx hb d_X_tick_84 ?_
            exact mm_iret (v := (nI ct) - (nI ct)) E hr hlk eQ hZ d_X_tick_85 ⟨_, rfl, Or.inr ⟨⟨Int64.not_lt.mp c6, c14⟩, Int32.sub_self _, eM61⟩⟩
          · have hk2 : k < 200 := by
              rcases Nat.lt_or_ge k 200 with z | z
              · exact z
              · exact absurd (show nI 200 ≤ nI k from nI_le z (by omega)) c41
            have hek := hit1 k hk2
            have hek0 : M61 (fa k) = some (itc (v k).1 (v k).2.1 (v k).2.2.1 0 (v k).2.2.2.2.1 (v k).2.2.2.2.2.1 (v k).2.2.2.2.2.2.1 (v k).2.2.2.2.2.2.2) := by rw [hek]; show some (itc _ _ _ (v k).2.2.2.1 _ _ _ _) = _; rw [hro k hk2]
            refine lv_aload_n hx hb d_X_tick_44 rfl (lv_at hl 0 rfl) ?_
            refine lv_iload hx hb d_X_tick_45 (lv_at hl 2 rfl) ?_
            refine lv_aload_n hx hb d_X_tick_47 rfl (lv_at hl 0 rfl) ?_
            refine mm_get E hZ cl_X fl_X_46 (by decide) h62 rfl d_X_tick_48 ?_
            refine lv_iload hx hb d_X_tick_51 (lv_at hl 2 rfl) ?_
            refine mm_aald (t0 := 3) E hZ hia1 rfl rfl (show k < 200 from hk2) (by decide) d_X_tick_53 ?_
            rw [hf k hk2]
            show W pG l eV (rk 9 216 0 0) s m args below meth cdx H locs 0 0 Q (F0 m 54 ls [.ref (fa k), .int (nI k), .ref x])
            refine mm_callv (mm_runV (As := [.int (nI k), .ref (fa k)]) (rest := []) E hZ hml hl.1 lk_X_107 me_X_tellLate in_X_tellLate (c_X_tellLate0 l g hek0 (nI k)) h62 cl_X.1 ⟨Nat.le_of_ble_eq_true rfl, Nat.le_of_ble_eq_true rfl⟩ rfl (Nat.le_of_ble_eq_true rfl) d_X_tick_54 ⟨Nat.le_of_ble_eq_true rfl, Nat.le_of_ble_eq_true rfl⟩) hZ (fun M1 H locs hp hZ => ?_)
            rw [hp] at hZ
            refine lv_aload_n hx hb d_X_tick_57 rfl (lv_at hl 0 rfl) ?_
            refine lv_iload hx hb d_X_tick_58 (lv_at hl 2 rfl) ?_
            refine lv_aload_n hx hb d_X_tick_60 rfl (lv_at hl 0 rfl) ?_
            refine mm_get E hZ cl_X fl_X_46 (by decide) h62 rfl d_X_tick_61 ?_
            refine lv_iload hx hb d_X_tick_64 (lv_at hl 2 rfl) ?_
            refine mm_aald (t0 := 3) E hZ hia1 rfl rfl (show k < 200 from hk2) (by decide) d_X_tick_66 ?_
            rw [hf k hk2]
            show W pG l eV (rk 9 216 0 0) s m args below meth cdx H locs 0 0 Q (F0 m 67 ls [.ref (fa k), .int (nI k), .ref x])
            refine mm_callv (mm_runV (As := [.int (nI k), .ref (fa k)]) (rest := []) E hZ hml hl.1 lk_X_111 me_X_tellLost in_X_tellLost (c_X_tellLost0 l g hek0 (nI k)) h62 cl_X.1 ⟨Nat.le_of_ble_eq_true rfl, Nat.le_of_ble_eq_true rfl⟩ rfl (Nat.le_of_ble_eq_true rfl) d_X_tick_67 ⟨Nat.le_of_ble_eq_true rfl, Nat.le_of_ble_eq_true rfl⟩) hZ (fun M1 H locs hp hZ => ?_)
            rw [hp] at hZ
            refine lv_iinc (v := (nI k) + 1) (lv' := [(4, .int ((nI k) + 1)), (0, .ref x), (3, .int (nI ct))]) hx hb d_X_tick_70 hl (k := 2) rfl rfl (by decide) rfl (fun ls hl => ?_)
            refine lv_goto (tgt := 36) hx hb d_X_tick_73 (by decide) ?_
            rw [nI_1] at hl
            exact ih (k + 1) H locs ls hZ (by omega) (by omega) (lv_sub hl [1, 2, 0] rfl)
      exact loop 201 0 H locs ls hZ (Nat.zero_le _) (by omega) (lv_sub hl [2, 1, 0] rfl)
    · have c14 := mt (lg_cmp_le _ _).mpr c14
      refine lv_bipush (v := (-102)) hx hb d_X_tick_17 (by decide) ?_
      exact mm_iret (v := (-102)) E hr hlk eQ hZ d_X_tick_19 ⟨_, rfl, Or.inl ⟨fun z => absurd z.2 c14, rfl, rfl⟩⟩
set_option maxHeartbeats 4000000 in
set_option maxRecDepth 100000 in
theorem cp_X_isPlace (l : Launch) (g : mm_G) {M0 : mm_M} (y : Int32) : Cp l g y_X_isPlace b_X_isPlace 1 .boolean (rk 0 0 0 0) M0 [.int y] (fun r => r = b32 (0 ≤ y ∧ y < 50)) := by
  refine mm_enterP (by decide) (Nat.le_of_ble_eq_true rfl) (fun pG eV s m args below meth cdx ls Q E hml hr hlk hZ hl eQ => ?_)
  have hx := E.1
  have hb := E.2.1
  have hl : lv_has ls 1 [(0, .int y)] := hl
  refine lv_iload_n hx hb d_X_isPlace_0 rfl (lv_at hl 0 rfl) ?_
  refine lv_if_lt (tgt := 14) hx hb d_X_isPlace_1 (by decide) (fun c1 => ?_) (fun c1 => ?_)
  · refine lv_iconst (v := 0) hx hb d_X_isPlace_14 (by decide) ?_
    exact mm_zretP (v := 0) E hr hlk eQ rfl d_X_isPlace_15 (b32_f (fun q => absurd q.1 (Int32.not_le.mpr c1)))
  · refine lv_iload_n hx hb d_X_isPlace_4 rfl (lv_at hl 0 rfl) ?_
    refine lv_bipush (v := 50) hx hb d_X_isPlace_5 (by decide) ?_
    refine lv_icmp_ge (tgt := 14) hx hb d_X_isPlace_7 (by decide) (fun c7 => ?_) (fun c7 => ?_)
    · refine lv_iconst (v := 0) hx hb d_X_isPlace_14 (by decide) ?_
      exact mm_zretP (v := 0) E hr hlk eQ rfl d_X_isPlace_15 (b32_f (fun q => absurd q.2 (Int32.not_lt.mpr c7)))
    · refine lv_iconst (v := 1) hx hb d_X_isPlace_10 (by decide) ?_
      refine lv_goto (tgt := 15) hx hb d_X_isPlace_11 (by decide) ?_
      exact mm_zretP (v := 1) E hr hlk eQ rfl d_X_isPlace_15 (b32_t ⟨Int32.not_lt.mp c1, Int32.not_le.mp c7⟩)
set_option maxHeartbeats 4000000 in
set_option maxRecDepth 100000 in
theorem cp_Cnts_begunAt (l : Launch) (g : mm_G) {M0 : mm_M} {o bA lA : Nat} {fb fl : Nat → Int32} (h0 : Cn g M0 o bA lA fb fl) {p : Nat} (hp5 : p < 50) : Cp l g y_Cnts_begunAt b_Cnts_begunAt 2 .int (rk 1 20 0 0) M0 [.ref o, .int (nI p)] (fun r => r = fb p) := by
  refine mm_enterP (by decide) (Nat.le_of_ble_eq_true rfl) (fun pG eV s m args below meth cdx ls Q E hml hr hlk hZ hl eQ => ?_)
  have hx := E.1
  have hb := E.2.1
  have hl : lv_has ls 2 [(0, .ref o), (1, .int (nI p))] := hl
  have ho := h0.1
  have hbA := h0.2.1
  have hlA := h0.2.2
  refine lv_iload_n hx hb d_Cnts_begunAt_0 rfl (lv_at hl 1 rfl) ?_
  refine mm_callP (mm_runSP (As := [.int (nI p)]) (rest := []) E hZ hml hl.1 lk_Cnts_18 me_X_isPlace st_X_isPlace (cp_X_isPlace l g (nI p)) ⟨Nat.le_of_ble_eq_true rfl, Nat.le_of_ble_eq_true rfl⟩ rfl (Nat.le_of_ble_eq_true rfl) d_Cnts_begunAt_1 ⟨Nat.le_of_ble_eq_true rfl, Nat.le_of_ble_eq_true rfl⟩) (fun r1 hp => ?_)
  refine lv_if_eq (tgt := 16) hx hb d_Cnts_begunAt_4 (by decide) (fun c4 => ?_) (fun c4 => ?_)
  · exact absurd (pl_in hp5) (b32_eq0.mp (hp ▸ c4))
  · refine lv_aload_n hx hb d_Cnts_begunAt_7 rfl (lv_at hl 0 rfl) ?_
    refine mm_get E hZ cl_Cnts fl_Cnts_9 (by decide) ho rfl d_Cnts_begunAt_8 ?_
    refine lv_iload_n hx hb d_Cnts_begunAt_11 rfl (lv_at hl 1 rfl) ?_
    refine mm_iald (t0 := 0) E hZ hbA rfl rfl (show p < 50 by omega) (by decide) d_Cnts_begunAt_12 ?_
    refine lv_goto (tgt := 17) hx hb d_Cnts_begunAt_13 (by decide) ?_
    exact mm_iretP (v := fb p) E hr hlk eQ d_Cnts_begunAt_17 rfl
set_option maxHeartbeats 4000000 in
set_option maxRecDepth 100000 in
theorem cp_Cnts_lateAt (l : Launch) (g : mm_G) {M0 : mm_M} {o bA lA : Nat} {fb fl : Nat → Int32} (h0 : Cn g M0 o bA lA fb fl) {p : Nat} (hp5 : p < 50) : Cp l g y_Cnts_lateAt b_Cnts_lateAt 2 .int (rk 1 20 0 0) M0 [.ref o, .int (nI p)] (fun r => r = fl p) := by
  refine mm_enterP (by decide) (Nat.le_of_ble_eq_true rfl) (fun pG eV s m args below meth cdx ls Q E hml hr hlk hZ hl eQ => ?_)
  have hx := E.1
  have hb := E.2.1
  have hl : lv_has ls 2 [(0, .ref o), (1, .int (nI p))] := hl
  have ho := h0.1
  have hbA := h0.2.1
  have hlA := h0.2.2
  refine lv_iload_n hx hb d_Cnts_lateAt_0 rfl (lv_at hl 1 rfl) ?_
  refine mm_callP (mm_runSP (As := [.int (nI p)]) (rest := []) E hZ hml hl.1 lk_Cnts_18 me_X_isPlace st_X_isPlace (cp_X_isPlace l g (nI p)) ⟨Nat.le_of_ble_eq_true rfl, Nat.le_of_ble_eq_true rfl⟩ rfl (Nat.le_of_ble_eq_true rfl) d_Cnts_lateAt_1 ⟨Nat.le_of_ble_eq_true rfl, Nat.le_of_ble_eq_true rfl⟩) (fun r1 hp => ?_)
  refine lv_if_eq (tgt := 16) hx hb d_Cnts_lateAt_4 (by decide) (fun c4 => ?_) (fun c4 => ?_)
  · exact absurd (pl_in hp5) (b32_eq0.mp (hp ▸ c4))
  · refine lv_aload_n hx hb d_Cnts_lateAt_7 rfl (lv_at hl 0 rfl) ?_
    refine mm_get E hZ cl_Cnts fl_Cnts_15 (by decide) ho rfl d_Cnts_lateAt_8 ?_
    refine lv_iload_n hx hb d_Cnts_lateAt_11 rfl (lv_at hl 1 rfl) ?_
    refine mm_iald (t0 := 0) E hZ hlA rfl rfl (show p < 50 by omega) (by decide) d_Cnts_lateAt_12 ?_
    refine lv_goto (tgt := 17) hx hb d_Cnts_lateAt_13 (by decide) ?_
    exact mm_iretP (v := fl p) E hr hlk eQ d_Cnts_lateAt_17 rfl
set_option maxHeartbeats 4000000 in
set_option maxRecDepth 100000 in
theorem c_X_shareN (l : Launch) (g : mm_G) {M0 : mm_M} {x : Nat} (i sd : Int32) (hno : ¬ ((0 ≤ i ∧ i < 50) ∧ (sd = 0 ∨ sd = 1))) : Cl l g y_X_share b_X_share 6 (rk 6 144 1 6) M0 [.ref x, .int i, .int sd] (fun r M' => M' = M0 ∧ ((¬ (0 ≤ i ∧ i < 50) ∧ r = (-101)) ∨ ((0 ≤ i ∧ i < 50) ∧ ¬ (sd = 0 ∨ sd = 1) ∧ r = (-102)))) := by
  refine mm_enter (by decide) (Nat.le_of_ble_eq_true rfl) (fun pG eV s m args below meth cdx ls Q E hml hr hlk hnm hZ hl eQ => ?_)
  have hx := E.1
  have hb := E.2.1
  have hl : lv_has ls 6 [(0, .ref x), (1, .int i), (2, .int sd)] := hl
  refine lv_iload_n hx hb d_X_share_0 rfl (lv_at hl 1 rfl) ?_
  refine mm_calli (mm_runS (As := [.int i]) (rest := []) E hZ hml hl.1 lk_X_55 me_X_isPlace st_X_isPlace (c_X_isPlace l g M0 i) ⟨Nat.le_of_ble_eq_true rfl, Nat.le_of_ble_eq_true rfl⟩ rfl (Nat.le_of_ble_eq_true rfl) d_X_share_1 ⟨Nat.le_of_ble_eq_true rfl, Nat.le_of_ble_eq_true rfl⟩) hZ (fun r1 M1 H locs hp hZ => ?_)
  rw [hp.1] at hZ
  replace hp := hp.2
  refine lv_if_ne (tgt := 11) hx hb d_X_share_4 (by decide) (fun c4 => ?_) (fun c4 => ?_)
  · have hpl := b32_ne0 (hp ▸ c4)
    refine lv_iload_n hx hb d_X_share_11 rfl (lv_at hl 2 rfl) ?_
    refine lv_if_eq (tgt := 24) hx hb d_X_share_12 (by decide) (fun c12 => ?_) (fun c12 => ?_)
    · exact absurd ⟨hpl, Or.inl c12⟩ hno
    · refine lv_iload_n hx hb d_X_share_15 rfl (lv_at hl 2 rfl) ?_
      refine lv_iconst (v := 1) hx hb d_X_share_16 (by decide) ?_
      refine lv_icmp_eq (tgt := 24) hx hb d_X_share_17 (by decide) (fun c17 => ?_) (fun c17 => ?_)
      · exact absurd ⟨hpl, Or.inr c17⟩ hno
      · refine lv_ldc2 (v := (-102)) hx hb E.2.2.1 (E.2.2.2.1 _ w_477) d_X_share_20 ?_
        refine W.widen (k := 1) (n := 6) (Nat.le_of_ble_eq_true rfl) (Nat.le_of_ble_eq_true rfl) ?_
        exact mm_lret (v := (-102)) E hr hlk eQ hZ d_X_share_23 ⟨_, rfl, rfl, Or.inr ⟨hpl, fun z => z.elim c12 c17, rfl⟩⟩
  · refine lv_ldc2 (v := (-101)) hx hb E.2.2.1 (E.2.2.2.1 _ w_537) d_X_share_7 ?_
    refine W.widen (k := 1) (n := 6) (Nat.le_of_ble_eq_true rfl) (Nat.le_of_ble_eq_true rfl) ?_
    exact mm_lret (v := (-101)) E hr hlk eQ hZ d_X_share_10 ⟨_, rfl, rfl, Or.inl ⟨b32_eq0.mp (hp ▸ c4), rfl⟩⟩
set_option maxHeartbeats 4000000 in
set_option maxRecDepth 100000 in
theorem c_X_shareT (l : Launch) (g : mm_G) {M0 : mm_M} {x rl yl tl cn dl ia : Nat} {ck : Int64} (hox : M0 x = some (xob rl yl tl cn dl ia ck)) {bA lA : Nat} {fb fl : Nat → Int32} (h0 : Cn g M0 cn bA lA fb fl) {p : Nat} (hp5 : p < 50) (hb0 : fb p ≤ 0) {sd : Int32} (hsd : sd = 0 ∨ sd = 1) (hst : l.stackTraces = false) : CtT l g y_X_share b_X_share 6 (some .long) (rk 6 144 1 6) M0 [.ref x, .int (nI p), .int sd] := by
  refine mm_enterT (by decide) (Nat.le_of_ble_eq_true rfl) (fun pG eV s m args below meth cdx ls Q E hml hne hlk hZ hl eQ => ?_)
  have hx := E.1
  have hb := E.2.1
  have hl : lv_has ls 6 [(0, .ref x), (1, .int (nI p)), (2, .int sd)] := hl
  refine lv_iload_n hx hb d_X_share_0 rfl (lv_at hl 1 rfl) ?_
  refine mm_callP (mm_runSP (As := [.int (nI p)]) (rest := []) E hZ hml hl.1 lk_X_55 me_X_isPlace st_X_isPlace (cp_X_isPlace l g (nI p)) ⟨Nat.le_of_ble_eq_true rfl, Nat.le_of_ble_eq_true rfl⟩ rfl (Nat.le_of_ble_eq_true rfl) d_X_share_1 ⟨Nat.le_of_ble_eq_true rfl, Nat.le_of_ble_eq_true rfl⟩) (fun r1 hp => ?_)
  refine lv_if_ne (tgt := 11) hx hb d_X_share_4 (by decide) (fun c4 => ?_) (fun c4 => ?_)
  · clear hp
    refine lv_iload_n hx hb d_X_share_11 rfl (lv_at hl 2 rfl) ?_
    refine lv_if_eq (tgt := 24) hx hb d_X_share_12 (by decide) (fun c12 => ?_) (fun c12 => ?_)
    · refine lv_aload_n hx hb d_X_share_24 rfl (lv_at hl 0 rfl) ?_
      refine mm_get E hZ cl_X fl_X_33 (by decide) hox rfl d_X_share_25 ?_
      refine lv_iload_n hx hb d_X_share_28 rfl (lv_at hl 1 rfl) ?_
      refine mm_callP (mm_runVP (As := [.int (nI p)]) (rest := []) E hZ hml hl.1 lk_X_130 me_Cnts_lateAt in_Cnts_lateAt (cp_Cnts_lateAt l g h0 hp5) h0.1 cl_Cnts.1 ⟨Nat.le_of_ble_eq_true rfl, Nat.le_of_ble_eq_true rfl⟩ rfl (Nat.le_of_ble_eq_true rfl) d_X_share_29 ⟨Nat.le_of_ble_eq_true rfl, Nat.le_of_ble_eq_true rfl⟩) (fun rl0 hp => ?_)
      clear hp
      refine lv_istore_n (lv' := [(3, .int rl0), (0, .ref x), (1, .int (nI p)), (2, .int sd)]) hx hb d_X_share_32 rfl hl (by decide) rfl (fun ls hl => ?_)
      refine lv_aload_n hx hb d_X_share_33 rfl (lv_at hl 1 rfl) ?_
      refine mm_get E hZ cl_X fl_X_33 (by decide) hox rfl d_X_share_34 ?_
      refine lv_iload_n hx hb d_X_share_37 rfl (lv_at hl 2 rfl) ?_
      refine mm_callP (mm_runVP (As := [.int (nI p)]) (rest := []) E hZ hml hl.1 lk_X_134 me_Cnts_begunAt in_Cnts_begunAt (cp_Cnts_begunAt l g h0 hp5) h0.1 cl_Cnts.1 ⟨Nat.le_of_ble_eq_true rfl, Nat.le_of_ble_eq_true rfl⟩ rfl (Nat.le_of_ble_eq_true rfl) d_X_share_38 ⟨Nat.le_of_ble_eq_true rfl, Nat.le_of_ble_eq_true rfl⟩) (fun rb0 hp => ?_)
      refine lv_istore (lv' := [(4, .int rb0), (3, .int rl0), (0, .ref x), (1, .int (nI p)), (2, .int sd)]) hx hb d_X_share_41 hl (by decide) rfl (fun ls hl => ?_)
      refine lv_iload hx hb d_X_share_43 (lv_at hl 0 rfl) ?_
      refine lv_if_gt (tgt := 58) hx hb d_X_share_45 (by decide) (fun c45 => ?_) (fun c45 => ?_)
      · exact absurd c45 (Int32.not_lt.mpr (hp ▸ hb0))
      · exact mm_throwAE hst E hZ hne hlk hml hl.1 d_X_share_48 d_X_share_51 d_X_share_52 d_X_share_54 d_X_share_57 (Nat.le_of_ble_eq_true rfl) (Nat.le_of_ble_eq_true rfl) (Nat.le_of_ble_eq_true rfl) (Nat.le_of_ble_eq_true rfl) eQ
    · refine lv_iload_n hx hb d_X_share_15 rfl (lv_at hl 2 rfl) ?_
      refine lv_iconst (v := 1) hx hb d_X_share_16 (by decide) ?_
      refine lv_icmp_eq (tgt := 24) hx hb d_X_share_17 (by decide) (fun c17 => ?_) (fun c17 => ?_)
      · refine lv_aload_n hx hb d_X_share_24 rfl (lv_at hl 0 rfl) ?_
        refine mm_get E hZ cl_X fl_X_33 (by decide) hox rfl d_X_share_25 ?_
        refine lv_iload_n hx hb d_X_share_28 rfl (lv_at hl 1 rfl) ?_
        refine mm_callP (mm_runVP (As := [.int (nI p)]) (rest := []) E hZ hml hl.1 lk_X_130 me_Cnts_lateAt in_Cnts_lateAt (cp_Cnts_lateAt l g h0 hp5) h0.1 cl_Cnts.1 ⟨Nat.le_of_ble_eq_true rfl, Nat.le_of_ble_eq_true rfl⟩ rfl (Nat.le_of_ble_eq_true rfl) d_X_share_29 ⟨Nat.le_of_ble_eq_true rfl, Nat.le_of_ble_eq_true rfl⟩) (fun rl0 hp => ?_)
        clear hp
        refine lv_istore_n (lv' := [(3, .int rl0), (0, .ref x), (1, .int (nI p)), (2, .int sd)]) hx hb d_X_share_32 rfl hl (by decide) rfl (fun ls hl => ?_)
        refine lv_aload_n hx hb d_X_share_33 rfl (lv_at hl 1 rfl) ?_
        refine mm_get E hZ cl_X fl_X_33 (by decide) hox rfl d_X_share_34 ?_
        refine lv_iload_n hx hb d_X_share_37 rfl (lv_at hl 2 rfl) ?_
        refine mm_callP (mm_runVP (As := [.int (nI p)]) (rest := []) E hZ hml hl.1 lk_X_134 me_Cnts_begunAt in_Cnts_begunAt (cp_Cnts_begunAt l g h0 hp5) h0.1 cl_Cnts.1 ⟨Nat.le_of_ble_eq_true rfl, Nat.le_of_ble_eq_true rfl⟩ rfl (Nat.le_of_ble_eq_true rfl) d_X_share_38 ⟨Nat.le_of_ble_eq_true rfl, Nat.le_of_ble_eq_true rfl⟩) (fun rb0 hp => ?_)
        refine lv_istore (lv' := [(4, .int rb0), (3, .int rl0), (0, .ref x), (1, .int (nI p)), (2, .int sd)]) hx hb d_X_share_41 hl (by decide) rfl (fun ls hl => ?_)
        refine lv_iload hx hb d_X_share_43 (lv_at hl 0 rfl) ?_
        refine lv_if_gt (tgt := 58) hx hb d_X_share_45 (by decide) (fun c45 => ?_) (fun c45 => ?_)
        · exact absurd c45 (Int32.not_lt.mpr (hp ▸ hb0))
        · exact mm_throwAE hst E hZ hne hlk hml hl.1 d_X_share_48 d_X_share_51 d_X_share_52 d_X_share_54 d_X_share_57 (Nat.le_of_ble_eq_true rfl) (Nat.le_of_ble_eq_true rfl) (Nat.le_of_ble_eq_true rfl) (Nat.le_of_ble_eq_true rfl) eQ
      · exact hsd.elim (fun z => absurd z c12) (fun z => absurd z c17)
  · exact absurd (pl_in hp5) (b32_eq0.mp (hp ▸ c4))
