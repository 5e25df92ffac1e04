/-! THE CLASS: expectNext, event -/
theorem Al.le {g : mm_G} {M : mm_M} {t la c n : Nat} {ad : Nat → Nat} (h : Al g M t la c n ad) : c ≤ n := by
  obtain ⟨mo, ea, h1, ⟨_, h2, _⟩ | ⟨k1, k2, k3, -⟩⟩ := h
  · omega
  · exact k3
theorem cp_19 {k : Nat} (h : k ≤ 11) : cp k < 2 ^ 19 := Nat.lt_of_le_of_lt (cp_le h) (by rw [cp_11]; decide)
/-- the item when a row begins to expect -/
abbrev itX (w : itS) (ro pl : Int32) (du : Int64) : itS := (w.1, w.2.1, w.2.2.1, ro, pl, du, w.2.2.2.2.2.2.1, w.2.2.2.2.2.2.2)
abbrev rowF (w : rowS) : rowS := (w.1, w.2.1, w.2.2.1, w.2.2.2.1, w.2.2.2.2.1, w.2.2.2.2.2.1, 1)
abbrev itD (w : itS) : itS := (-1, w.2.1, w.2.2.1, 0, w.2.2.2.2.1, w.2.2.2.2.2.1, 0, 0)
abbrev itV (w : itS) (st : Int32) (t : Int64) : itS := (st, if w.1 = (-1) then t else w.2.1, t, 0, w.2.2.2.2.1, w.2.2.2.2.2.1, 0, 0)
set_option maxHeartbeats 4000000 in
set_option maxRecDepth 100000 in
theorem c_X_expectNext (l : Launch) (g : mm_G) {M0 : mm_M} {a : Nat → Nat} {ad at0 fa : Nat → Nat} {kr kf kt c cf ct ch cd : Nat} {R : Nat → rowS} {fr : Nat → Nat} {fh : Nat → Int64} {F : Nat → Nat → Int32} {fb fl fd fs : Nat → Int32} {v : Nat → itS} {ck : Int64} (h : Xi g M0 a ad at0 fa kr kf kt c cf ct ch cd R fr fh F fb fl fd fs v ck) {j k p : Nat} (hj : j < 200) (hk : k < c) (hp5 : p < 50) (hch : ch ≤ 100) (hk5 : kf ≤ 5) (t : Int64) : Ci l g y_X_expectNext b_X_expectNext 6 .int (rk 8 192 (alC cf (cp kf)) (alS cf (cp kf))) M0 [.ref (a 0), .ref (fa j), .ref (ad k), .int (nI p), .long t] (fun r M' => ((¬ (R k).2.2.2.2.2.1 = 0 ∧ r = - (R k).1 ∧ ((¬ (R k).2.2.2.2.2.2 = 0 ∧ Xi g M' a ad at0 fa kr kf kt c cf ct ch cd R fr fh F fb fl fd fs v ck) ∨ ((R k).2.2.2.2.2.2 = 0 ∧ Xi g M' a ad at0 fa kr (lvl cf kf) kt c (cf + 1) ct ch cd (va_up R k (rowF (R k))) (va_up fr cf k) fh F fb fl fd fs v ck))) ∨ ((R k).2.2.2.2.2.1 = 0 ∧ r = (R k).1 ∧ Xi g M' a ad at0 fa kr kf kt c cf ct ch cd R fr fh F (va_up fb p (fb p + 1)) fl fd fs (va_up v j (itX (v j) (R k).1 (nI p) (dA fh t (R k).2.2.2.2.1 ch))) ck)) ∧ ∀ u, 19 ≤ u → mm_same u M0 M') := by
  refine mm_enter (by decide) (Nat.le_of_ble_eq_true rfl) (fun pG eV s m args below meth cdx ls Q E hml hr hlk hnm hZ hl eQ => ?_)
  have hx := E.1
  have hb := E.2.1
  have hl : lv_has ls 6 [(0, .ref (a 0)), (1, .ref (fa j)), (2, .ref (ad k)), (3, .int (nI p)), (4, .long t)] := hl
  have hox := h.x
  have hek := h.row k hk
  have hej := h.item hj
  have hlv := lvl_M cf kf h.rl.2.2.le
  have hkf := cp_19 (Nat.le_trans hk5 (by decide : 5 ≤ 11))
  refine lv_aload_n hx hb d_X_expectNext_0 rfl (lv_at hl 2 rfl) ?_
  refine lv_ifnonnull (tgt := 6) hx hb d_X_expectNext_1 (by decide) ?_
  refine lv_aload_n hx hb d_X_expectNext_6 rfl (lv_at hl 2 rfl) ?_
  refine mm_get E hZ cl_Row fl_X_171 (by decide) hek rfl d_X_expectNext_7 ?_
  refine lv_if_eq (tgt := 27) hx hb d_X_expectNext_10 (by decide) (fun c10 => ?_) (fun c10 => ?_)
  · refine lv_aload_n hx hb d_X_expectNext_27 rfl (lv_at hl 1 rfl) ?_
    refine lv_aload_n hx hb d_X_expectNext_28 rfl (lv_at hl 2 rfl) ?_
    refine mm_get E hZ cl_Row fl_X_180 (by decide) hek rfl d_X_expectNext_29 ?_
    refine lv_iload_n hx hb d_X_expectNext_32 rfl (lv_at hl 3 rfl) ?_
    refine lv_aload_n hx hb d_X_expectNext_33 rfl (lv_at hl 0 rfl) ?_
    refine mm_get E hZ cl_X fl_X_19 (by decide) hox rfl d_X_expectNext_34 ?_
    refine lv_lload hx hb d_X_expectNext_37 (lv_at hl 4 rfl) ?_
    refine lv_aload_n hx hb d_X_expectNext_39 rfl (lv_at hl 2 rfl) ?_
    refine mm_get E hZ cl_Row fl_X_184 (by decide) hek rfl d_X_expectNext_40 ?_
    refine mm_calll (mm_runV (As := [.long t, .long ((R k).2.2.2.2.1)]) (rest := [.int (nI p), .int ((R k).1), .ref (fa j)]) E hZ hml hl.1 lk_X_187 me_Holi_dueAfter in_Holi_dueAfter (c_Holi_dueAfter l g h.hl hch t (R k).2.2.2.2.1) h.hl.1 cl_Holi.1 ⟨Nat.le_of_ble_eq_true rfl, Nat.le_of_ble_eq_true rfl⟩ rfl (Nat.le_of_ble_eq_true rfl) d_X_expectNext_43 ⟨by show 0 + 0 ≤ alC cf (cp kf); omega, by show 0 + 0 ≤ alS cf (cp kf); omega⟩) hZ (fun rd M1 H locs hp hZ => ?_)
    rw [hp.1] at hZ
    replace hp := hp.2
    subst hp
    refine mm_callv (mm_runV (As := [.int ((R k).1), .int (nI p), .long (dA fh t (R k).2.2.2.2.1 ch)]) (rest := []) E hZ hml hl.1 lk_X_191 me_Item_expect in_Item_expect (c_Item_expect l g hej (R k).1 (nI p) (dA fh t (R k).2.2.2.2.1 ch)) hej cl_Item.1 ⟨Nat.le_of_ble_eq_true rfl, Nat.le_of_ble_eq_true rfl⟩ rfl (Nat.le_of_ble_eq_true rfl) d_X_expectNext_46 ⟨by show 0 + 0 + 0 ≤ alC cf (cp kf); omega, by show 0 + 0 + 0 ≤ alS cf (cp kf); omega⟩) hZ (fun Mx H locs hp hZ => ?_)
    have hX2 : Xi g Mx a ad at0 fa kr kf kt c cf ct ch cd R fr fh F fb fl fd fs (va_up v j (itX (v j) (R k).1 (nI p) (dA fh t (R k).2.2.2.2.1 ch))) ck := by rw [hp]; exact h.upI hj (itX (v j) (R k).1 (nI p) (dA fh t (R k).2.2.2.2.1 ch))
    have hs1 : ∀ u, u ≠ 7 → mm_same u M0 Mx := fun u hu => by rw [hp]; exact mm_same.up hej hu _
    clear hp
    have hox2 := hX2.x
    refine lv_aload_n hx hb d_X_expectNext_49 rfl (lv_at hl 0 rfl) ?_
    refine mm_get E hZ cl_X fl_X_33 (by decide) hox2 rfl d_X_expectNext_50 ?_
    refine lv_iload_n hx hb d_X_expectNext_53 rfl (lv_at hl 3 rfl) ?_
    refine mm_callv (mm_runV (As := [.int (nI p)]) (rest := []) E hZ hml hl.1 lk_X_195 me_Cnts_addBegun in_Cnts_addBegun (c_Cnts_addBegun l g hX2.cn hp5) hX2.cn.1 cl_Cnts.1 ⟨Nat.le_of_ble_eq_true rfl, Nat.le_of_ble_eq_true rfl⟩ rfl (Nat.le_of_ble_eq_true rfl) d_X_expectNext_54 ⟨by show 0 + 0 + 0 + 0 ≤ alC cf (cp kf); omega, by show 0 + 0 + 0 + 0 ≤ alS cf (cp kf); omega⟩) hZ (fun My H locs hp hZ => ?_)
    have hX3 := hX2.upB hp.1 hp.2
    have hek3 := hX3.row k hk
    refine lv_aload_n hx hb d_X_expectNext_57 rfl (lv_at hl 2 rfl) ?_
    refine mm_get E hZ cl_Row fl_X_180 (by decide) hek3 rfl d_X_expectNext_58 ?_
    refine W.widen (k := alC cf (cp kf)) (n := alS cf (cp kf)) (by show 0 + 0 + 0 + 0 ≤ alC cf (cp kf); omega) (by show 0 + 0 + 0 + 0 ≤ alS cf (cp kf); omega) ?_
    exact mm_iret (v := (R k).1) E hr hlk eQ hZ d_X_expectNext_61 ⟨_, rfl, Or.inr ⟨c10, rfl, hX3⟩, fun u hu => (hs1 u (by omega)).tr (hp.2 u (by omega))⟩
  · refine lv_aload_n hx hb d_X_expectNext_13 rfl (lv_at hl 0 rfl) ?_
    refine mm_get E hZ cl_X fl_X_10 (by decide) hox rfl d_X_expectNext_14 ?_
    refine lv_aload_n hx hb d_X_expectNext_17 rfl (lv_at hl 2 rfl) ?_
    refine mm_callv (mm_runV (As := [.ref (ad k)]) (rest := []) E hZ hml hl.1 lk_X_176 me_RowL_noteFailed in_RowL_noteFailed (c_RowL_noteFailed l g h.rl h.row hkf (fun i hi => ⟨fr i, h.fri i hi, rfl⟩) hk) h.rl.1 cl_RowL.1 ⟨Nat.le_of_ble_eq_true rfl, Nat.le_of_ble_eq_true rfl⟩ rfl (Nat.le_of_ble_eq_true rfl) d_X_expectNext_18 ⟨by show 0 + alC cf (cp kf) ≤ alC cf (cp kf); omega, by show 0 + alS cf (cp kf) ≤ alS cf (cp kf); omega⟩) hZ (fun Mx H locs hp hZ => ?_)
    rcases hp with ⟨hnz, eM⟩ | ⟨hz, hal, hq, ho, hs⟩
    · rw [eM] at hZ
      refine lv_aload_n hx hb d_X_expectNext_21 rfl (lv_at hl 2 rfl) ?_
      refine mm_get E hZ cl_Row fl_X_180 (by decide) hek rfl d_X_expectNext_22 ?_
      refine lv_ineg hx hb d_X_expectNext_25 ?_
      refine W.widen (k := alC cf (cp kf)) (n := alS cf (cp kf)) (by show 0 + alC cf (cp kf) ≤ alC cf (cp kf); omega) (by show 0 + alS cf (cp kf) ≤ alS cf (cp kf); omega) ?_
      exact mm_iret (v := -((R k).1)) E hr hlk eQ hZ d_X_expectNext_26 ⟨_, rfl, Or.inl ⟨c10, rfl, Or.inl ⟨hnz, h⟩⟩, fun u _ => mm_same.rf⟩
    · rw [hlv.1] at hal
      refine lv_aload_n hx hb d_X_expectNext_21 rfl (lv_at hl 2 rfl) ?_
      refine mm_get E hZ cl_Row fl_X_180 (by decide) hq rfl d_X_expectNext_22 ?_
      refine lv_ineg hx hb d_X_expectNext_25 ?_
      refine W.widen (k := alC cf (cp kf)) (n := alS cf (cp kf)) (by show 0 + alC cf (cp kf) ≤ alC cf (cp kf); omega) (by show 0 + alS cf (cp kf) ≤ alS cf (cp kf); omega) ?_
      exact mm_iret (v := -((R k).1)) E hr hlk eQ hZ d_X_expectNext_26 ⟨_, rfl, Or.inl ⟨c10, rfl, Or.inr ⟨hz, h.upN hk (w := rowF (R k)) hq ho hal hs⟩⟩, fun u hu => hs u (by omega) (by omega)⟩
set_option maxHeartbeats 4000000 in
set_option maxRecDepth 100000 in
theorem c_X_event (l : Launch) (g : mm_G) {M0 : mm_M} {a : Nat → Nat} {ad at0 fa : Nat → Nat} {kr kf kt c cf ct ch cd : Nat} {R : Nat → rowS} {fr : Nat → Nat} {fh : Nat → Int64} {F : Nat → Nat → Int32} {fb fl fd fs : Nat → Int32} {v : Nat → itS} {ck : Int64} (h : Xi g M0 a ad at0 fa kr kf kt c cf ct ch cd R fr fh F fb fl fd fs v ck) (hcd : cd < 512) (hch : ch ≤ 100) (hk5 : kf ≤ 5) (i st pl sv : Int32) (t : Int64) : Ci l g y_X_event b_X_event 8 .int (rk 9 217 (alC cf (cp kf)) (alS cf (cp kf))) M0 [.ref (a 0), .int i, .int st, .int pl, .int sv, .long t] (fun r M' => ((∀ k q, k < 200 → q < 50 → ¬ (i = nI k ∧ pl = nI q)) ∧ r = (-101) ∧ M' = M0) ∨ ∃ j p, j < 200 ∧ p < 50 ∧ i = nI j ∧ pl = nI p ∧ ((¬ (0 ≤ st ∧ st ≤ 9 ∧ (0 ≤ sv ∧ sv < 5) ∧ (0 ≤ t ∧ t ≤ 1000000000 ∧ ((v j).1 = (-1) ∨ (v j).2.2.1 ≤ t))) ∧ r = (-102) ∧ M' = M0) ∨ ((0 ≤ st ∧ st ≤ 9 ∧ (0 ≤ sv ∧ sv < 5) ∧ (0 ≤ t ∧ t ≤ 1000000000 ∧ ((v j).1 = (-1) ∨ (v j).2.2.1 ≤ t))) ∧ ((st = 9 ∧ r = 0 ∧ ∃ fd2 fs2, Xi g M' a ad at0 fa kr kf kt c cf ct ch (cd + 1) R fr fh F fb fl fd2 fs2 (va_up v j (itD (v j))) ck ∧ ins2 fd fs fd2 fs2 cd (if (v j).1 = (-1) then 0 else ((t - (v j).2.1) / 86400).toInt32) sv ∧ ∀ u, 19 ≤ u → mm_same u M0 M') ∨ (¬ st = 9 ∧ (∀ k, k < c → ¬ rowIs (R k) st (nI p) sv) ∧ r = 0 ∧ Xi g M' a ad at0 fa kr kf kt c cf ct ch cd R fr fh F fb fl fd fs (va_up v j (itV (v j) st t)) ck ∧ ∀ u, 19 ≤ u → mm_same u M0 M') ∨ (¬ st = 9 ∧ ∃ k, k < c ∧ rowIs (R k) st (nI p) sv ∧ (∀ z, z < k → ¬ rowIs (R z) st (nI p) sv) ∧ ((¬ (R k).2.2.2.2.2.1 = 0 ∧ r = - (R k).1 ∧ ((¬ (R k).2.2.2.2.2.2 = 0 ∧ Xi g M' a ad at0 fa kr kf kt c cf ct ch cd R fr fh F fb fl fd fs (va_up v j (itV (v j) st t)) ck) ∨ ((R k).2.2.2.2.2.2 = 0 ∧ Xi g M' a ad at0 fa kr (lvl cf kf) kt c (cf + 1) ct ch cd (va_up R k (rowF (R k))) (va_up fr cf k) fh F fb fl fd fs (va_up v j (itV (v j) st t)) ck))) ∨ ((R k).2.2.2.2.2.1 = 0 ∧ r = (R k).1 ∧ Xi g M' a ad at0 fa kr kf kt c cf ct ch cd R fr fh F (va_up fb p (fb p + 1)) fl fd fs (va_up v j (itX (itV (v j) st t) (R k).1 (nI p) (dA fh t (R k).2.2.2.2.1 ch))) ck)) ∧ ∀ u, 19 ≤ u → mm_same u M0 M'))))) := by
  refine mm_enter (by decide) (Nat.le_of_ble_eq_true rfl) (fun pG eV s m args below meth cdx ls Q E hml hr hlk hnm hZ hl eQ => ?_)
  have hx := E.1
  have hb := E.2.1
  have hl : lv_has ls 8 [(0, .ref (a 0)), (1, .int i), (2, .int st), (3, .int pl), (4, .int sv), (5, .long t)] := hl
  have hox := h.x
  obtain ⟨⟨f, hia, hf⟩, hit, hinj⟩ := h.it
  refine lv_iload_n hx hb d_X_event_0 rfl (lv_at hl 1 rfl) ?_
  refine mm_calli (mm_runS (As := [.int i]) (rest := []) E hZ hml hl.1 lk_X_68 me_X_isItem st_X_isItem (c_X_isItem l g M0 i) ⟨Nat.le_of_ble_eq_true rfl, Nat.le_of_ble_eq_true rfl⟩ rfl (Nat.le_of_ble_eq_true rfl) d_X_event_1 ⟨by show 0 + 0 ≤ alC cf (cp kf); omega, by show 0 + 0 ≤ alS cf (cp kf); omega⟩) hZ (fun ri M1 H locs hp hZ => ?_)
  rw [hp.1] at hZ
  replace hp := hp.2
  refine lv_if_eq (tgt := 14) hx hb d_X_event_4 (by decide) (fun c4 => ?_) (fun c4 => ?_)
  · refine lv_bipush (v := (-101)) hx hb d_X_event_14 (by decide) ?_
    refine W.widen (k := alC cf (cp kf)) (n := alS cf (cp kf)) (by show 0 + 0 ≤ alC cf (cp kf); omega) (by show 0 + 0 ≤ alS cf (cp kf); omega) ?_
    exact mm_iret (v := (-101)) E hr hlk eQ hZ d_X_event_16 ⟨_, rfl, Or.inl ⟨fun k q hk hq z => b32_eq0.mp (hp ▸ c4) (z.1 ▸ it_in hk), rfl, rfl⟩⟩
  · obtain ⟨j, hj, rfl⟩ := in_it (b32_ne0 (hp ▸ c4))
    clear hp
    refine lv_iload_n hx hb d_X_event_7 rfl (lv_at hl 3 rfl) ?_
    refine mm_calli (mm_runS (As := [.int pl]) (rest := []) E hZ hml hl.1 lk_X_55 me_X_isPlace st_X_isPlace (c_X_isPlace l g M0 pl) ⟨Nat.le_of_ble_eq_true rfl, Nat.le_of_ble_eq_true rfl⟩ rfl (Nat.le_of_ble_eq_true rfl) d_X_event_8 ⟨by show 0 + 0 + 0 ≤ alC cf (cp kf); omega, by show 0 + 0 + 0 ≤ alS cf (cp kf); omega⟩) hZ (fun r1 M1 H locs hp hZ => ?_)
    rw [hp.1] at hZ
    replace hp := hp.2
    refine lv_if_ne (tgt := 17) hx hb d_X_event_11 (by decide) (fun c11 => ?_) (fun c11 => ?_)
    · obtain ⟨p, hp5, rfl⟩ := in_pl (b32_ne0 (hp ▸ c11))
      clear hp
      refine lv_aload_n hx hb d_X_event_17 rfl (lv_at hl 0 rfl) ?_
      refine mm_get E hZ cl_X fl_X_46 (by decide) hox rfl d_X_event_18 ?_
      refine lv_iload_n hx hb d_X_event_21 rfl (lv_at hl 1 rfl) ?_
      refine mm_aald (t0 := 3) E hZ hia rfl rfl (show j < 200 from hj) (by decide) d_X_event_22 ?_
      rw [hf j hj]
      have hej := hit j hj
      show W pG l eV (rk 9 217 (alC cf (cp kf)) (alS cf (cp kf))) s m args below meth cdx H locs (0 + 0 + 0) (0 + 0 + 0) Q (F0 m 23 ls [.ref (fa j)])
      refine lv_astore (lv' := [(7, .ref (fa j)), (0, .ref (a 0)), (1, .int (nI j)), (2, .int st), (3, .int (nI p)), (4, .int sv), (5, .long t)]) hx hb d_X_event_23 hl (by decide) rfl (fun ls hl => ?_)
      refine lv_iload_n hx hb d_X_event_25 rfl (lv_at hl 3 rfl) ?_
      refine lv_if_lt (tgt := 53) hx hb d_X_event_26 (by decide) (fun c26 => ?_) (fun c26 => ?_)
      · refine lv_bipush (v := (-102)) hx hb d_X_event_53 (by decide) ?_
        refine W.widen (k := alC cf (cp kf)) (n := alS cf (cp kf)) (by show 0 + 0 + 0 ≤ alC cf (cp kf); omega) (by show 0 + 0 + 0 ≤ alS cf (cp kf); omega) ?_
        exact mm_iret (v := (-102)) E hr hlk eQ hZ d_X_event_55 ⟨_, rfl, Or.inr ⟨j, p, hj, hp5, rfl, rfl, Or.inl ⟨fun z => absurd z.1 (Int32.not_le.mpr c26), rfl, rfl⟩⟩⟩
      · refine lv_iload_n hx hb d_X_event_29 rfl (lv_at hl 3 rfl) ?_
        refine lv_bipush (v := 9) hx hb d_X_event_30 (by decide) ?_
        refine lv_icmp_gt (tgt := 53) hx hb d_X_event_32 (by decide) (fun c32 => ?_) (fun c32 => ?_)
        · refine lv_bipush (v := (-102)) hx hb d_X_event_53 (by decide) ?_
          refine W.widen (k := alC cf (cp kf)) (n := alS cf (cp kf)) (by show 0 + 0 + 0 ≤ alC cf (cp kf); omega) (by show 0 + 0 + 0 ≤ alS cf (cp kf); omega) ?_
          exact mm_iret (v := (-102)) E hr hlk eQ hZ d_X_event_55 ⟨_, rfl, Or.inr ⟨j, p, hj, hp5, rfl, rfl, Or.inl ⟨fun z => absurd z.2.1 (Int32.not_le.mpr c32), rfl, rfl⟩⟩⟩
        · refine lv_iload hx hb d_X_event_35 (lv_at hl 5 rfl) ?_
          refine mm_calli (mm_runS (As := [.int sv]) (rest := []) E hZ hml hl.1 lk_X_59 me_X_isService st_X_isService (c_X_isService l g M0 sv) ⟨Nat.le_of_ble_eq_true rfl, Nat.le_of_ble_eq_true rfl⟩ rfl (Nat.le_of_ble_eq_true rfl) d_X_event_37 ⟨by show 0 + 0 + 0 + 0 ≤ alC cf (cp kf); omega, by show 0 + 0 + 0 + 0 ≤ alS cf (cp kf); omega⟩) hZ (fun r2 M1 H locs hp hZ => ?_)
          rw [hp.1] at hZ
          replace hp := hp.2
          refine lv_if_eq (tgt := 53) hx hb d_X_event_40 (by decide) (fun c40 => ?_) (fun c40 => ?_)
          · refine lv_bipush (v := (-102)) hx hb d_X_event_53 (by decide) ?_
            refine W.widen (k := alC cf (cp kf)) (n := alS cf (cp kf)) (by show 0 + 0 + 0 + 0 ≤ alC cf (cp kf); omega) (by show 0 + 0 + 0 + 0 ≤ alS cf (cp kf); omega) ?_
            exact mm_iret (v := (-102)) E hr hlk eQ hZ d_X_event_55 ⟨_, rfl, Or.inr ⟨j, p, hj, hp5, rfl, rfl, Or.inl ⟨fun z => b32_eq0.mp (hp ▸ c40) z.2.2.1, rfl, rfl⟩⟩⟩
          · have hsv := b32_ne0 (hp ▸ c40)
            clear hp
            refine lv_aload hx hb d_X_event_43 (lv_at hl 0 rfl) ?_
            refine lv_lload hx hb d_X_event_45 (lv_at hl 6 rfl) ?_
            refine mm_calli (mm_runV (As := [.long t]) (rest := []) E hZ hml hl.1 lk_X_71 me_Item_mayComeAt in_Item_mayComeAt (c_Item_mayComeAt l g hej t) hej cl_Item.1 ⟨Nat.le_of_ble_eq_true rfl, Nat.le_of_ble_eq_true rfl⟩ rfl (Nat.le_of_ble_eq_true rfl) d_X_event_47 ⟨by show 0 + 0 + 0 + 0 + 0 ≤ alC cf (cp kf); omega, by show 0 + 0 + 0 + 0 + 0 ≤ alS cf (cp kf); omega⟩) hZ (fun r3 M1 H locs hp hZ => ?_)
            rw [hp.1] at hZ
            replace hp := hp.2
            refine lv_if_ne (tgt := 56) hx hb d_X_event_50 (by decide) (fun c50 => ?_) (fun c50 => ?_)
            · have hmay := b32_ne0 (hp ▸ c50)
              clear hp
              have hOK : 0 ≤ st ∧ st ≤ 9 ∧ (0 ≤ sv ∧ sv < 5) ∧ (0 ≤ t ∧ t ≤ 1000000000 ∧ ((v j).1 = (-1) ∨ (v j).2.2.1 ≤ t)) := ⟨Int32.not_lt.mp c26, Int32.not_lt.mp c32, hsv, hmay⟩
              refine lv_aload hx hb d_X_event_56 (lv_at hl 0 rfl) ?_
              refine mm_callv (mm_runV (As := []) (rest := []) E hZ hml hl.1 lk_X_75 me_Item_expectNothing in_Item_expectNothing (c_Item_expectNothing l g hej) hej cl_Item.1 ⟨Nat.le_of_ble_eq_true rfl, Nat.le_of_ble_eq_true rfl⟩ rfl (Nat.le_of_ble_eq_true rfl) d_X_event_58 ⟨by show 0 + 0 + 0 + 0 + 0 + 0 ≤ alC cf (cp kf); omega, by show 0 + 0 + 0 + 0 + 0 + 0 ≤ alS cf (cp kf); omega⟩) hZ (fun Mx H locs hp hZ => ?_)
              have hX2 : Xi g Mx a ad at0 fa kr kf kt c cf ct ch cd R fr fh F fb fl fd fs (va_up v j ((v j).1, (v j).2.1, (v j).2.2.1, 0, (v j).2.2.2.2.1, (v j).2.2.2.2.2.1, 0, 0)) ck := by rw [hp]; exact h.upI hj ((v j).1, (v j).2.1, (v j).2.2.1, 0, (v j).2.2.2.2.1, (v j).2.2.2.2.2.1, 0, 0)
              have hej2 : Mx (fa j) = _ := (congrFun hp (fa j)).trans (mm_self _ _ _)
              have hs1 : ∀ u, u ≠ 7 → mm_same u M0 Mx := fun u hu => by rw [hp]; exact mm_same.up hej hu _
              have hox2 := hX2.x
              have hp1 := hp
              clear hp
              refine lv_iload_n hx hb d_X_event_61 rfl (lv_at hl 3 rfl) ?_
              refine lv_bipush (v := 9) hx hb d_X_event_62 (by decide) ?_
              refine lv_icmp_ne (tgt := 90) hx hb d_X_event_64 (by decide) (fun c64 => ?_) (fun c64 => ?_)
              · have hst9 : ¬ st = 9 := c64
                refine lv_aload hx hb d_X_event_90 (lv_at hl 0 rfl) ?_
                refine lv_iload_n hx hb d_X_event_92 rfl (lv_at hl 3 rfl) ?_
                refine lv_lload hx hb d_X_event_93 (lv_at hl 6 rfl) ?_
                refine mm_callv (mm_runV (As := [.int st, .long t]) (rest := []) E hZ hml hl.1 lk_X_89 me_Item_takeEvent in_Item_takeEvent (c_Item_takeEvent l g hej2 st t) hej2 cl_Item.1 ⟨Nat.le_of_ble_eq_true rfl, Nat.le_of_ble_eq_true rfl⟩ rfl (Nat.le_of_ble_eq_true rfl) d_X_event_95 ⟨by show 0 + 0 + 0 + 0 + 0 + 0 + 0 ≤ alC cf (cp kf); omega, by show 0 + 0 + 0 + 0 + 0 + 0 + 0 ≤ alS cf (cp kf); omega⟩) hZ (fun My H locs hp hZ => ?_)
                have hX3 : Xi g My a ad at0 fa kr kf kt c cf ct ch cd R fr fh F fb fl fd fs (va_up v j (itV (v j) st t)) ck := by rw [hp, hp1, mm_uu]; exact h.upI hj (itV (v j) st t)
                have hs3 : ∀ u, u ≠ 7 → mm_same u Mx My := fun u hu => by rw [hp]; exact mm_same.up hej2 hu _
                have hox3 := hX3.x
                clear hp
                refine lv_aload_n hx hb d_X_event_98 rfl (lv_at hl 1 rfl) ?_
                refine lv_aload hx hb d_X_event_99 (lv_at hl 0 rfl) ?_
                refine lv_aload_n hx hb d_X_event_101 rfl (lv_at hl 1 rfl) ?_
                refine mm_get E hZ cl_X fl_X_10 (by decide) hox3 rfl d_X_event_102 ?_
                refine lv_iload_n hx hb d_X_event_105 rfl (lv_at hl 3 rfl) ?_
                refine lv_iload_n hx hb d_X_event_106 rfl (lv_at hl 4 rfl) ?_
                refine lv_iload hx hb d_X_event_107 (lv_at hl 5 rfl) ?_
                refine mm_callq (mm_runV (As := [.int st, .int (nI p), .int sv]) (rest := [.ref (fa j), .ref (a 0)]) E hZ hml hl.1 lk_X_93 me_RowL_firstFor in_RowL_firstFor (c_RowL_firstFor l g hX3.rl hX3.row st (nI p) sv) hX3.rl.1 cl_RowL.1 ⟨Nat.le_of_ble_eq_true rfl, Nat.le_of_ble_eq_true rfl⟩ rfl (Nat.le_of_ble_eq_true rfl) d_X_event_109 ⟨by show 0 + 0 + 0 + 0 + 0 + 0 + 0 + 0 ≤ alC cf (cp kf); omega, by show 0 + 0 + 0 + 0 + 0 + 0 + 0 + 0 ≤ alS cf (cp kf); omega⟩) hZ (fun rq M1 H locs hp hZ => ?_)
                rw [hp.1] at hZ
                replace hp := hp.2
                rcases hp with ⟨rfl, hno⟩ | ⟨k, hk, rfl, hrow, hno⟩
                · refine lv_iload_n hx hb d_X_event_112 rfl (lv_at hl 4 rfl) ?_
                  refine lv_lload hx hb d_X_event_113 (lv_at hl 6 rfl) ?_
                  refine mm_calli (mm_runV (As := [.ref (fa j), .null, .int (nI p), .long t]) (rest := []) E hZ hml hl.1 lk_X_97 me_X_expectNext in_X_expectNext (c_X_expectNext0 l g (nI p) t) hox3 cl_X.1 ⟨Nat.le_of_ble_eq_true rfl, Nat.le_of_ble_eq_true rfl⟩ rfl (Nat.le_of_ble_eq_true rfl) d_X_event_115 ⟨by show 0 + 0 + 0 + 0 + 0 + 0 + 0 + 0 + 0 ≤ alC cf (cp kf); omega, by show 0 + 0 + 0 + 0 + 0 + 0 + 0 + 0 + 0 ≤ alS cf (cp kf); omega⟩) hZ (fun r6 M1 H locs hp hZ => ?_)
                  rw [hp.1] at hZ
                  replace hp := hp.2
                  subst hp
                  refine W.widen (k := alC cf (cp kf)) (n := alS cf (cp kf)) (by show 0 + 0 + 0 + 0 + 0 + 0 + 0 + 0 + 0 ≤ alC cf (cp kf); omega) (by show 0 + 0 + 0 + 0 + 0 + 0 + 0 + 0 + 0 ≤ alS cf (cp kf); omega) ?_
                  exact mm_iret (v := 0) E hr hlk eQ hZ d_X_event_118 ⟨_, rfl, Or.inr ⟨j, p, hj, hp5, rfl, rfl, Or.inr ⟨hOK, Or.inr (Or.inl ⟨hst9, hno, rfl, hX3, fun u hu => (hs1 u (by omega)).tr (hs3 u (by omega))⟩)⟩⟩⟩
                · refine lv_iload_n hx hb d_X_event_112 rfl (lv_at hl 4 rfl) ?_
                  refine lv_lload hx hb d_X_event_113 (lv_at hl 6 rfl) ?_
                  refine mm_calli (mm_runV (As := [.ref (fa j), .ref (ad k), .int (nI p), .long t]) (rest := []) E hZ hml hl.1 lk_X_97 me_X_expectNext in_X_expectNext (c_X_expectNext l g hX3 hj hk hp5 hch hk5 t) hox3 cl_X.1 ⟨Nat.le_of_ble_eq_true rfl, Nat.le_of_ble_eq_true rfl⟩ rfl (Nat.le_of_ble_eq_true rfl) d_X_event_115 ⟨by show 0 + 0 + 0 + 0 + 0 + 0 + 0 + 0 + alC cf (cp kf) ≤ alC cf (cp kf); omega, by show 0 + 0 + 0 + 0 + 0 + 0 + 0 + 0 + alS cf (cp kf) ≤ alS cf (cp kf); omega⟩) hZ (fun r7 Mz H locs hp hZ => ?_)
                  refine W.widen (k := alC cf (cp kf)) (n := alS cf (cp kf)) (by show 0 + 0 + 0 + 0 + 0 + 0 + 0 + 0 + alC cf (cp kf) ≤ alC cf (cp kf); omega) (by show 0 + 0 + 0 + 0 + 0 + 0 + 0 + 0 + alS cf (cp kf) ≤ alS cf (cp kf); omega) ?_
                  exact mm_iret (v := r7) E hr hlk eQ hZ d_X_event_118 ⟨_, rfl, Or.inr ⟨j, p, hj, hp5, rfl, rfl, Or.inr ⟨hOK, Or.inr (Or.inr ⟨hst9, k, hk, hrow, hno, by rw [va_up_self, bx_uu] at hp; exact hp.1, fun u hu => ((hs1 u (by omega)).tr (hs3 u (by omega))).tr (hp.2 u hu)⟩)⟩⟩⟩
              · have hst9 : st = 9 := c64
                refine lv_aload_n hx hb d_X_event_67 rfl (lv_at hl 1 rfl) ?_
                refine mm_get E hZ cl_X fl_X_40 (by decide) hox2 rfl d_X_event_68 ?_
                refine lv_iload hx hb d_X_event_71 (lv_at hl 5 rfl) ?_
                refine lv_aload hx hb d_X_event_73 (lv_at hl 0 rfl) ?_
                refine lv_lload hx hb d_X_event_75 (lv_at hl 6 rfl) ?_
                refine mm_calli (mm_runV (As := [.long t]) (rest := [.int sv, .ref (a 11)]) E hZ hml hl.1 lk_X_78 me_Item_daysUntil in_Item_daysUntil (c_Item_daysUntil l g hej2 t) hej2 cl_Item.1 ⟨Nat.le_of_ble_eq_true rfl, Nat.le_of_ble_eq_true rfl⟩ rfl (Nat.le_of_ble_eq_true rfl) d_X_event_77 ⟨by show 0 + 0 + 0 + 0 + 0 + 0 + 0 ≤ alC cf (cp kf); omega, by show 0 + 0 + 0 + 0 + 0 + 0 + 0 ≤ alS cf (cp kf); omega⟩) hZ (fun rd M1 H locs hp hZ => ?_)
                rw [hp.1] at hZ
                replace hp := hp.2
                subst hp
                refine mm_callv (mm_runV (As := [.int sv, .int (if (v j).1 = (-1) then 0 else ((t - (v j).2.1) / 86400).toInt32)]) (rest := []) E hZ hml hl.1 lk_X_82 me_Deliv_addDelivery in_Deliv_addDelivery (c_Deliv_addDelivery l g hX2.dl hcd sv (if (v j).1 = (-1) then 0 else ((t - (v j).2.1) / 86400).toInt32)) hX2.dl.1 cl_Deliv.1 ⟨Nat.le_of_ble_eq_true rfl, Nat.le_of_ble_eq_true rfl⟩ rfl (Nat.le_of_ble_eq_true rfl) d_X_event_80 ⟨by show 0 + 0 + 0 + 0 + 0 + 0 + 0 + 0 ≤ alC cf (cp kf); omega, by show 0 + 0 + 0 + 0 + 0 + 0 + 0 + 0 ≤ alS cf (cp kf); omega⟩) hZ (fun My H locs hp hZ => ?_)
                obtain ⟨fd2, fs2, hD3, hins, hs3⟩ := hp
                have hX3 := hX2.upD hD3 hs3
                have hej3 := hs3 7 (by decide) (by decide) (by decide) _ _ hej2
                refine lv_aload hx hb d_X_event_83 (lv_at hl 0 rfl) ?_
                refine mm_callv (mm_runV (As := []) (rest := []) E hZ hml hl.1 lk_X_86 me_Item_beginAnew in_Item_beginAnew (c_Item_beginAnew l g hej3) hej3 cl_Item.1 ⟨Nat.le_of_ble_eq_true rfl, Nat.le_of_ble_eq_true rfl⟩ rfl (Nat.le_of_ble_eq_true rfl) d_X_event_85 ⟨by show 0 + 0 + 0 + 0 + 0 + 0 + 0 + 0 + 0 ≤ alC cf (cp kf); omega, by show 0 + 0 + 0 + 0 + 0 + 0 + 0 + 0 + 0 ≤ alS cf (cp kf); omega⟩) hZ (fun Mz H locs hp hZ => ?_)
                have hX4 : Xi g Mz a ad at0 fa kr kf kt c cf ct ch (cd + 1) R fr fh F fb fl fd2 fs2 (va_up v j (itD (v j))) ck := by
                  have hq := hX3.upI hj (itD (v j))
                  rw [bx_uu] at hq
                  rw [hp]
                  exact hq
                refine lv_iconst (v := 0) hx hb d_X_event_88 (by decide) ?_
                refine W.widen (k := alC cf (cp kf)) (n := alS cf (cp kf)) (by show 0 + 0 + 0 + 0 + 0 + 0 + 0 + 0 + 0 + 0 ≤ alC cf (cp kf); omega) (by show 0 + 0 + 0 + 0 + 0 + 0 + 0 + 0 + 0 + 0 ≤ alS cf (cp kf); omega) ?_
                exact mm_iret (v := 0) E hr hlk eQ hZ d_X_event_89 ⟨_, rfl, Or.inr ⟨j, p, hj, hp5, rfl, rfl, Or.inr ⟨hOK, Or.inl ⟨hst9, rfl, fd2, fs2, hX4, hins, fun u hu => ((hs1 u (by omega)).tr (hs3 u (by omega) (by omega) (by omega))).tr (by rw [hp]; exact mm_same.up hej3 (by omega) _)⟩⟩⟩⟩
            · refine lv_bipush (v := (-102)) hx hb d_X_event_53 (by decide) ?_
              refine W.widen (k := alC cf (cp kf)) (n := alS cf (cp kf)) (by show 0 + 0 + 0 + 0 + 0 ≤ alC cf (cp kf); omega) (by show 0 + 0 + 0 + 0 + 0 ≤ alS cf (cp kf); omega) ?_
              exact mm_iret (v := (-102)) E hr hlk eQ hZ d_X_event_55 ⟨_, rfl, Or.inr ⟨j, p, hj, hp5, rfl, rfl, Or.inl ⟨fun z => b32_eq0.mp (hp ▸ c50) z.2.2.2, rfl, rfl⟩⟩⟩
    · refine lv_bipush (v := (-101)) hx hb d_X_event_14 (by decide) ?_
      refine W.widen (k := alC cf (cp kf)) (n := alS cf (cp kf)) (by show 0 + 0 + 0 ≤ alC cf (cp kf); omega) (by show 0 + 0 + 0 ≤ alS cf (cp kf); omega) ?_
      exact mm_iret (v := (-101)) E hr hlk eQ hZ d_X_event_16 ⟨_, rfl, Or.inl ⟨fun k q hk hq z => b32_eq0.mp (hp ▸ c11) (z.2 ▸ pl_in hq), rfl, rfl⟩⟩
