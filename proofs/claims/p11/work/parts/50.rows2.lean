/-! THE CLASS: RowList.firstFor, noteFailed; AlarmList.addAlarm -/
abbrev rowS : Type := Int32 × Int32 × Int32 × Int32 × Int64 × Int32 × Int32
abbrev rowE (v : rowS) : mm_E := rowc v.1 v.2.1 v.2.2.1 v.2.2.2.1 v.2.2.2.2.1 v.2.2.2.2.2.1 v.2.2.2.2.2.2
abbrev rowIs (v : rowS) (x y z : Int32) : Prop := v.2.1 = x ∧ (v.2.2.1 = (-1) ∨ v.2.2.1 = y) ∧ (v.2.2.2.1 = (-1) ∨ v.2.2.2.1 = z)
set_option maxHeartbeats 4000000 in
set_option maxRecDepth 100000 in
theorem c_RowL_firstFor (l : Launch) (g : mm_G) {M0 : mm_M} {o la lf c n cf nf : Nat} {ad af : Nat → Nat} (h0 : Rl g M0 o la lf c n cf nf ad af) {R : Nat → rowS} (hrow : ∀ i, i < c → M0 (ad i) = some (rowE (R i))) (st pl sv : Int32) : Cq l g y_RowL_firstFor b_RowL_firstFor 6 (.object "ExpectRows$Row") (rk 3 64 0 0) M0 [.ref o, .int st, .int pl, .int sv] (fun r M' => M' = M0 ∧ ((r = none ∧ ∀ i, i < c → ¬ rowIs (R i) st pl sv) ∨ ∃ k, k < c ∧ r = some (ad k) ∧ rowIs (R k) st pl sv ∧ ∀ i, i < k → ¬ rowIs (R i) st pl sv)) := by
  refine mm_enter (by decide) (Nat.le_of_ble_eq_true rfl) (fun pG eV s m args below meth cdx ls Q E hml hr hlk hnm hZ hl eQ => ?_)
  have hx := E.1
  have hb := E.2.1
  have hl : lv_has ls 6 [(0, .ref o), (1, .int st), (2, .int pl), (3, .int sv)] := hl
  have ho := h0.1
  obtain ⟨vsl, hvl⟩ := h0.2.1.obj
  have hc20 := h0.2.1.lt
  refine lv_iconst (v := 0) hx hb d_RowL_firstFor_0 (by decide) ?_
  refine lv_istore (lv' := [(4, .int 0), (0, .ref o), (1, .int st), (2, .int pl), (3, .int sv)]) hx hb d_RowL_firstFor_1 hl (by decide) rfl (fun ls hl => ?_)
  have loop : ∀ (n : Nat) (k : Nat) (H : Heap) (locs : List Loc) (ls : Array Slot), mm_S g s M0 H locs → k ≤ c → (∀ i, i < k → ¬ rowIs (R i) st pl sv) → c + 1 ≤ k + n → lv_has ls 6 [(0, .ref o), (1, .int st), (2, .int pl), (3, .int sv), (4, .int (nI k))] → W pG l eV (rk 3 64 0 0) s m args below meth cdx H locs 0 0 Q (F0 m 3 ls []) := by
    intro n
    induction n with
    | zero => exact fun k H locs ls _ hk1 hno hfu _ => absurd hfu (by omega)
    | succ n ih =>
      intro k H locs ls hZ hk1 hno hfu hl
      refine lv_iload hx hb d_RowL_firstFor_3 (lv_at hl 4 rfl) ?_
      refine lv_aload_n hx hb d_RowL_firstFor_5 rfl (lv_at hl 0 rfl) ?_
      refine mm_get E hZ cl_RowL fl_RowL_12 (by decide) ho rfl d_RowL_firstFor_6 ?_
      refine mm_calli (mm_runV (As := []) (rest := [.int (nI k)]) E hZ hml hl.1 lk_RowL_21 me_AL_size in_AL_size (c_AL_size l g h0.2.1) hvl cl_AL.1 ⟨Nat.le_of_ble_eq_true rfl, Nat.le_of_ble_eq_true rfl⟩ rfl (Nat.le_of_ble_eq_true rfl) d_RowL_firstFor_9 ⟨Nat.le_of_ble_eq_true rfl, Nat.le_of_ble_eq_true rfl⟩) hZ (fun r1 M1 H locs hp hZ => ?_)
      rw [hp.1] at hZ
      replace hp := hp.2
      subst hp
      refine lv_icmp_ge (tgt := 49) hx hb d_RowL_firstFor_12 (by decide) (fun c12 => ?_) (fun c12 => ?_)
      · have hk2 : k = c := by
          rcases Nat.lt_or_ge k c with z | z
          · exact absurd c12 (nI_ge z (by omega))
          · omega
        subst hk2
        refine lv_null hx hb d_RowL_firstFor_49 ?_
        exact mm_aret (v := none) E hr (Or.inl ⟨_, rfl⟩) hlk eQ hZ d_RowL_firstFor_50 ⟨_, rfl, rfl, Or.inl ⟨rfl, hno⟩⟩
      · have hk2 : k < c := by
          rcases Nat.lt_or_ge k c with z | z
          · exact z
          · exact absurd (nI_le z (by omega)) c12
        have hek := hrow k hk2
        refine lv_aload_n hx hb d_RowL_firstFor_15 rfl (lv_at hl 0 rfl) ?_
        refine mm_get E hZ cl_RowL fl_RowL_12 (by decide) ho rfl d_RowL_firstFor_16 ?_
        refine lv_iload hx hb d_RowL_firstFor_19 (lv_at hl 4 rfl) ?_
        refine mm_callq (mm_runV (As := [.int (nI k)]) (rest := []) E hZ hml hl.1 lk_RowL_34 me_AL_get in_AL_get (c_AL_get l g h0.2.1 hk2) hvl cl_AL.1 ⟨Nat.le_of_ble_eq_true rfl, Nat.le_of_ble_eq_true rfl⟩ rfl (Nat.le_of_ble_eq_true rfl) d_RowL_firstFor_21 ⟨Nat.le_of_ble_eq_true rfl, Nat.le_of_ble_eq_true rfl⟩) hZ (fun rq M1 H locs hp hZ => ?_)
        rw [hp.1] at hZ
        replace hp := hp.2
        subst hp
        refine mm_cast E hZ hek cl_Row.1 w_208 d_RowL_firstFor_24 ?_
        refine lv_astore (lv' := [(5, .ref (ad k)), (0, .ref o), (1, .int st), (2, .int pl), (3, .int sv), (4, .int (nI k))]) hx hb d_RowL_firstFor_27 hl (by decide) rfl (fun ls hl => ?_)
        refine lv_aload hx hb d_RowL_firstFor_29 (lv_at hl 0 rfl) ?_
        refine lv_iload_n hx hb d_RowL_firstFor_31 rfl (lv_at hl 2 rfl) ?_
        refine lv_iload_n hx hb d_RowL_firstFor_32 rfl (lv_at hl 3 rfl) ?_
        refine lv_iload_n hx hb d_RowL_firstFor_33 rfl (lv_at hl 4 rfl) ?_
        refine mm_calli (mm_runV (As := [.int st, .int pl, .int sv]) (rest := []) E hZ hml hl.1 lk_RowL_38 me_Row_isFor in_Row_isFor (c_Row_isFor l g hek st pl sv) hek cl_Row.1 ⟨Nat.le_of_ble_eq_true rfl, Nat.le_of_ble_eq_true rfl⟩ rfl (Nat.le_of_ble_eq_true rfl) d_RowL_firstFor_34 ⟨Nat.le_of_ble_eq_true rfl, Nat.le_of_ble_eq_true rfl⟩) hZ (fun r2 M1 H locs hp hZ => ?_)
        rw [hp.1] at hZ
        replace hp := hp.2
        refine lv_if_eq (tgt := 43) hx hb d_RowL_firstFor_37 (by decide) (fun c37 => ?_) (fun c37 => ?_)
        · refine lv_iinc (v := (nI k) + 1) (lv' := [(4, .int ((nI k) + 1)), (5, .ref (ad k)), (0, .ref o), (1, .int st), (2, .int pl), (3, .int sv)]) hx hb d_RowL_firstFor_43 hl (k := 5) rfl rfl (by decide) rfl (fun ls hl => ?_)
          refine lv_goto (tgt := 3) hx hb d_RowL_firstFor_46 (by decide) ?_
          rw [nI_1] at hl
          exact ih (k + 1) H locs ls hZ (by omega) (fun i z => by
            rcases Nat.lt_or_ge i k with y | y
            · exact hno i y
            · rw [show i = k by omega]; exact b32_eq0.mp (hp ▸ c37)) (by omega) (lv_sub hl [2, 3, 4, 5, 0] rfl)
        · refine lv_aload hx hb d_RowL_firstFor_40 (lv_at hl 0 rfl) ?_
          exact mm_aret (v := some (ad k)) E hr (Or.inl ⟨_, rfl⟩) hlk eQ hZ d_RowL_firstFor_42 ⟨_, rfl, rfl, Or.inr ⟨k, hk2, rfl, b32_ne0 (hp ▸ c37), hno⟩⟩
  exact loop (c + 1) 0 s.heap [] ls hZ (Nat.zero_le _) (fun i z => absurd z (Nat.not_lt_zero i)) (by omega) (lv_sub hl [1, 2, 3, 4, 0] rfl)
set_option maxHeartbeats 4000000 in
set_option maxRecDepth 100000 in
theorem c_RowL_noteFailed (l : Launch) (g : mm_G) {M0 : mm_M} {o la lf c n cf nf : Nat} {ad af : Nat → Nat} (h0 : Rl g M0 o la lf c n cf nf ad af) {R : Nat → rowS} (hrow : ∀ i, i < c → M0 (ad i) = some (rowE (R i))) (hn19 : nf < 2 ^ 19) (hfr : ∀ i, i < cf → ∃ j, j < c ∧ af i = ad j) {k : Nat} (hk : k < c) : Cv l g y_RowL_noteFailed b_RowL_noteFailed 2 (rk 7 171 (alC cf nf) (alS cf nf)) M0 [.ref o, .ref (ad k)] (fun M' => (¬ (R k).2.2.2.2.2.2 = 0 ∧ M' = M0) ∨ ((R k).2.2.2.2.2.2 = 0 ∧ Al g M' 9 lf (cf + 1) (alM cf nf) (va_up af cf (ad k)) ∧ M' (ad k) = some (rowc (R k).1 (R k).2.1 (R k).2.2.1 (R k).2.2.2.1 (R k).2.2.2.2.1 (R k).2.2.2.2.2.1 1) ∧ (∀ b x, b ≠ ad k → M0 b = some (10, x) → M' b = some (10, x)) ∧ ∀ u, u ≠ 9 → u ≠ 10 → mm_same u M0 M')) := by
  refine mm_enter (by decide) (Nat.le_of_ble_eq_true rfl) (fun pG eV s m args below meth cdx ls Q E hml hr hlk hnm hZ hl eQ => ?_)
  have hx := E.1
  have hb := E.2.1
  have hl : lv_has ls 2 [(0, .ref o), (1, .ref (ad k))] := hl
  have ho := h0.1
  have hek := hrow k hk
  refine lv_aload_n hx hb d_RowL_noteFailed_0 rfl (lv_at hl 1 rfl) ?_
  refine mm_get E hZ cl_Row fl_RowL_42 (by decide) hek rfl d_RowL_noteFailed_1 ?_
  refine lv_if_ne (tgt := 21) hx hb d_RowL_noteFailed_4 (by decide) (fun c4 => ?_) (fun c4 => ?_)
  · refine W.widen (k := alC cf nf) (n := alS cf nf) (Nat.zero_le _) (Nat.zero_le _) ?_
    exact mm_vret E hr hlk eQ hZ d_RowL_noteFailed_21 ⟨rfl, Or.inl ⟨c4, rfl⟩⟩
  · refine lv_aload_n hx hb d_RowL_noteFailed_7 rfl (lv_at hl 1 rfl) ?_
    refine lv_iconst (v := 1) hx hb d_RowL_noteFailed_8 (by decide) ?_
    refine mm_put E hZ cl_Row fl_RowL_42 (by decide) rfl hek (by decide) rfl rfl (Nat.le_of_ble_eq_true rfl) d_RowL_noteFailed_9 (fun H locs hZ => ?_)
    obtain ⟨M1, eM1⟩ : ∃ zz : mm_M, zz = mm_up M0 (ad k) (ob 10 7 [.int ((R k).1), .int ((R k).2.1), .int ((R k).2.2.1), .int ((R k).2.2.2.1), .long ((R k).2.2.2.2.1), .int ((R k).2.2.2.2.2.1), .int 1]) := ⟨_, rfl⟩
    have hZ : mm_S g s M1 H locs := by rw [eM1]; exact hZ
    have h2 := (congrFun eM1 o).trans ((mm_ne _ _ (mm_tag ho hek (by decide))).trans ho)
    have h3 := (congrFun eM1 (ad k)).trans (mm_self _ _ _)
    refine lv_aload_n hx hb d_RowL_noteFailed_12 rfl (lv_at hl 0 rfl) ?_
    refine mm_get E hZ cl_RowL fl_RowL_18 (by decide) h2 rfl d_RowL_noteFailed_13 ?_
    refine lv_aload_n hx hb d_RowL_noteFailed_16 rfl (lv_at hl 1 rfl) ?_
    have hs1 : ∀ u, u ≠ 10 → mm_same u M0 M1 := fun u hu => by rw [eM1]; exact mm_same.up hek hu _
    have hal := h0.2.2.kept (hs1 9 (by decide))
    obtain ⟨vsr, hvr⟩ := hal.obj
    have hel : elOk M1 cf af := by
      rw [eM1]
      refine elOk_up (fun i hi => ?_) hek _
      obtain ⟨j, hj, ej⟩ := hfr i hi
      rw [ej]
      exact ⟨10, 7, _, _, hrow j hj, rfl, row_cast⟩
    refine mm_calli (mm_runV (As := [.ref (ad k)]) (rest := []) E hZ hml hl.1 lk_RowL_30 me_AL_add1 in_AL_add1 (c_AL_add1 l g (by decide) hal hn19 hel h3 rfl row_cast (by decide)) hvr cl_AL.1 ⟨Nat.le_of_ble_eq_true rfl, Nat.le_of_ble_eq_true rfl⟩ rfl (Nat.le_of_ble_eq_true rfl) d_RowL_noteFailed_17 ⟨by show 0 + alC cf nf ≤ alC cf nf; omega, by show 0 + alS cf nf ≤ alS cf nf; omega⟩) hZ (fun r4 Mx H locs hp hZ => ?_)
    obtain ⟨hr1, hal2, hs2⟩ := hp
    refine lv_pop hx hb d_RowL_noteFailed_20 rfl ?_
    refine W.widen (k := alC cf nf) (n := alS cf nf) (by show 0 + alC cf nf ≤ alC cf nf; omega) (by show 0 + alS cf nf ≤ alS cf nf; omega) ?_
    exact mm_vret E hr hlk eQ hZ d_RowL_noteFailed_21 ⟨rfl, Or.inr ⟨c4, hal2, hs2 10 (by decide) _ _ h3, fun b x hbk hb0 => hs2 10 (by decide) _ _ ((congrFun eM1 b).trans ((mm_ne _ _ hbk).trans hb0)), fun u u9 u10 => (hs1 u u10).tr (hs2 u u9)⟩⟩
set_option maxHeartbeats 4000000 in
set_option maxRecDepth 100000 in
theorem c_Alarm_init (l : Launch) (g : mm_G) {M0 : mm_M} {a : Nat} (h : M0 a = some (ob 12 1 [.int 0, .int 0, .int 0, .int 0, .int 0])) (v0 v1 v2 v3 v4 : Int32) : Cv l g y_Alarm_init b_Alarm_init 6 (rk 1 20 0 0) M0 [.ref a, .int v0, .int v1, .int v2, .int v3, .int v4] (fun M' => M' = mm_up M0 a (ob 12 1 [.int v0, .int v1, .int v2, .int v3, .int v4])) := by
  refine mm_enter (by decide) (Nat.le_of_ble_eq_true rfl) (fun pG eV s m args below meth cdx ls Q E hml hr hlk hnm hZ hl eQ => ?_)
  have hx := E.1
  have hb := E.2.1
  have hl : lv_has ls 6 [(0, .ref a), (1, .int v0), (2, .int v1), (3, .int v2), (4, .int v3), (5, .int v4)] := hl
  refine lv_aload_n hx hb d_Alarm_init_0 rfl (lv_at hl 0 rfl) ?_
  refine mm_objI E hml hl.1 w_415 w_30 w_31 (Nat.le_of_ble_eq_true rfl) (Nat.le_of_ble_eq_true rfl) d_Alarm_init_1 ?_
  refine lv_aload_n hx hb d_Alarm_init_4 rfl (lv_at hl 0 rfl) ?_
  refine lv_iload_n hx hb d_Alarm_init_5 rfl (lv_at hl 1 rfl) ?_
  refine mm_putF (k := 0) E hnm hZ cl_Alarm w_416 (by decide) rfl rfl h (by decide) rfl rfl (Nat.le_of_ble_eq_true rfl) d_Alarm_init_6 (fun H locs hZ => ?_)
  obtain ⟨M1, eM1⟩ : ∃ zz : mm_M, zz = mm_up M0 a (ob 12 1 [.int v0, .int 0, .int 0, .int 0, .int 0]) := ⟨_, rfl⟩
  have hZ : mm_S g s M1 H locs := by rw [eM1]; exact hZ
  have h2 := (congrFun eM1 a).trans (mm_self _ _ _)
  refine lv_aload_n hx hb d_Alarm_init_9 rfl (lv_at hl 0 rfl) ?_
  refine lv_iload_n hx hb d_Alarm_init_10 rfl (lv_at hl 2 rfl) ?_
  refine mm_putF (k := 1) E hnm hZ cl_Alarm w_418 (by decide) rfl rfl h2 (by decide) rfl rfl (Nat.le_of_ble_eq_true rfl) d_Alarm_init_11 (fun H locs hZ => ?_)
  obtain ⟨M3, eM3⟩ : ∃ zz : mm_M, zz = mm_up M1 a (ob 12 1 [.int v0, .int v1, .int 0, .int 0, .int 0]) := ⟨_, rfl⟩
  have hZ : mm_S g s M3 H locs := by rw [eM3]; exact hZ
  have h4 := (congrFun eM3 a).trans (mm_self _ _ _)
  refine lv_aload_n hx hb d_Alarm_init_14 rfl (lv_at hl 0 rfl) ?_
  refine lv_iload_n hx hb d_Alarm_init_15 rfl (lv_at hl 3 rfl) ?_
  refine mm_putF (k := 2) E hnm hZ cl_Alarm w_420 (by decide) rfl rfl h4 (by decide) rfl rfl (Nat.le_of_ble_eq_true rfl) d_Alarm_init_16 (fun H locs hZ => ?_)
  obtain ⟨M5, eM5⟩ : ∃ zz : mm_M, zz = mm_up M3 a (ob 12 1 [.int v0, .int v1, .int v2, .int 0, .int 0]) := ⟨_, rfl⟩
  have hZ : mm_S g s M5 H locs := by rw [eM5]; exact hZ
  have h6 := (congrFun eM5 a).trans (mm_self _ _ _)
  refine lv_aload_n hx hb d_Alarm_init_19 rfl (lv_at hl 0 rfl) ?_
  refine lv_iload hx hb d_Alarm_init_20 (lv_at hl 4 rfl) ?_
  refine mm_putF (k := 3) E hnm hZ cl_Alarm w_422 (by decide) rfl rfl h6 (by decide) rfl rfl (Nat.le_of_ble_eq_true rfl) d_Alarm_init_22 (fun H locs hZ => ?_)
  obtain ⟨M7, eM7⟩ : ∃ zz : mm_M, zz = mm_up M5 a (ob 12 1 [.int v0, .int v1, .int v2, .int v3, .int 0]) := ⟨_, rfl⟩
  have hZ : mm_S g s M7 H locs := by rw [eM7]; exact hZ
  have h8 := (congrFun eM7 a).trans (mm_self _ _ _)
  refine lv_aload_n hx hb d_Alarm_init_25 rfl (lv_at hl 0 rfl) ?_
  refine lv_iload hx hb d_Alarm_init_26 (lv_at hl 5 rfl) ?_
  refine mm_putF (k := 4) E hnm hZ cl_Alarm w_424 (by decide) rfl rfl h8 (by decide) rfl rfl (Nat.le_of_ble_eq_true rfl) d_Alarm_init_28 (fun H locs hZ => ?_)
  obtain ⟨M9, eM9⟩ : ∃ zz : mm_M, zz = mm_up M7 a (ob 12 1 [.int v0, .int v1, .int v2, .int v3, .int v4]) := ⟨_, rfl⟩
  have hZ : mm_S g s M9 H locs := by rw [eM9]; exact hZ
  have h10 := (congrFun eM9 a).trans (mm_self _ _ _)
  exact mm_vret E hr hlk eQ hZ d_Alarm_init_31 ⟨rfl, (by rw [eM9, eM7, eM5, eM3, eM1]; simp only [mm_uu])⟩
def alv (a b c d e : Int32) : Nat → Int32 := fun z => match z with
  | 0 => a
  | 1 => b
  | 2 => c
  | 3 => d
  | _ => e
theorem tl_el {g : mm_G} {M : mm_M} {o lt c n : Nat} {ad : Nat → Nat} {F : Nat → Nat → Int32} (h : Tl g M o lt c n ad F) : elOk M c ad := fun i hi => ⟨12, 1, _, _, h.2.2 i hi, rfl, alarm_cast⟩
set_option maxHeartbeats 4000000 in
set_option maxRecDepth 100000 in
theorem c_AlarmL_addAlarm (l : Launch) (g : mm_G) {M0 : mm_M} {o lt c n : Nat} {ad : Nat → Nat} {F : Nat → Nat → Int32} (h0 : Tl g M0 o lt c n ad F) (hn19 : n < 2 ^ 19) (nu ki : Int32) {it : Nat} {st : Int32} {fi la : Int64} {ro pl : Int32} {du : Int64} {lat lo : Int32} (hit : M0 it = some (itc st fi la ro pl du lat lo)) : Cv l g y_AlarmL_addAlarm b_AlarmL_addAlarm 4 (rk 7 171 (1 + alC c n) (5 + alS c n)) M0 [.ref o, .int nu, .int ki, .ref it] (fun M' => (400 ≤ c ∧ M' = M0) ∨ (c < 400 ∧ ∃ q, Tl g M' o lt (c + 1) (alM c n) (va_up ad c q) (va_up F c (alv nu ki ro pl du.toInt32)) ∧ ∀ u, u ≠ 11 → mm_same u M0 M')) := by
  refine mm_enter (by decide) (Nat.le_of_ble_eq_true rfl) (fun pG eV s m args below meth cdx ls Q E hml hr hlk hnm hZ hl eQ => ?_)
  have hx := E.1
  have hb := E.2.1
  have hl : lv_has ls 4 [(0, .ref o), (1, .int nu), (2, .int ki), (3, .ref it)] := hl
  have ho := h0.1
  obtain ⟨vsl, hvl⟩ := h0.2.1.obj
  have hc20 := h0.2.1.lt
  refine lv_aload_n hx hb d_AlarmL_addAlarm_0 rfl (lv_at hl 0 rfl) ?_
  refine mm_get E hZ cl_AlarmL fl_AlarmL_12 (by decide) ho rfl d_AlarmL_addAlarm_1 ?_
  refine mm_calli (mm_runV (As := []) (rest := []) E hZ hml hl.1 lk_AlarmL_18 me_AL_size in_AL_size (c_AL_size l g h0.2.1) hvl cl_AL.1 ⟨Nat.le_of_ble_eq_true rfl, Nat.le_of_ble_eq_true rfl⟩ rfl (Nat.le_of_ble_eq_true rfl) d_AlarmL_addAlarm_4 ⟨by show 0 + 0 ≤ 1 + alC c n; omega, by show 0 + 0 ≤ 5 + alS c n; omega⟩) hZ (fun r1 M1 H locs hp hZ => ?_)
  rw [hp.1] at hZ
  replace hp := hp.2
  subst hp
  refine lv_sipush (v := 400) hx hb d_AlarmL_addAlarm_7 (by decide) ?_
  refine lv_icmp_ge (tgt := 43) hx hb d_AlarmL_addAlarm_10 (by decide) (fun c10 => ?_) (fun c10 => ?_)
  · refine W.widen (k := 1 + alC c n) (n := 5 + alS c n) (by show 0 + 0 ≤ 1 + alC c n; omega) (by show 0 + 0 ≤ 5 + alS c n; omega) ?_
    exact mm_vret E hr hlk eQ hZ d_AlarmL_addAlarm_43 ⟨rfl, Or.inl ⟨by
        rcases Nat.lt_or_ge c 400 with z | z
        · exact absurd (show nI 400 ≤ nI c from c10) (nI_ge z (by decide))
        · exact z, rfl⟩⟩
  · have hc4 : c < 400 := by
      rcases Nat.lt_or_ge c 400 with z | z
      · exact z
      · exact absurd (show nI 400 ≤ nI c from nI_le z (by omega)) c10
    refine lv_aload_n hx hb d_AlarmL_addAlarm_13 rfl (lv_at hl 0 rfl) ?_
    refine mm_get E hZ cl_AlarmL fl_AlarmL_12 (by decide) ho rfl d_AlarmL_addAlarm_14 ?_
    refine mm_new 12 E hZ cl_Alarm w_410 ni_Alarm.1 ni_Alarm.2 fs_Alarm (by show 0 + 0 + 1 ≤ 1 + alC c n; omega) (by show 0 + 0 + 5 ≤ 5 + alS c n; omega) d_AlarmL_addAlarm_17 (fun q H hBq hNq hZ => ?_)
    obtain ⟨M2, eM2⟩ : ∃ zz : mm_M, zz = mm_up M0 q (ob 12 1 [.int 0, .int 0, .int 0, .int 0, .int 0]) := ⟨_, rfl⟩
    have hZ : mm_S g s M2 H locs := by rw [eM2]; exact hZ
    have h3 := (congrFun eM2 o).trans ((mm_ne _ _ (mm_apartN ho hNq)).trans ho)
    have h4 := (congrFun eM2 it).trans ((mm_ne _ _ (mm_apartN hit hNq)).trans hit)
    have h5 := (congrFun eM2 q).trans (mm_self _ _ _)
    refine lv_dup hx hb d_AlarmL_addAlarm_20 rfl ?_
    refine lv_iload_n hx hb d_AlarmL_addAlarm_21 rfl (lv_at hl 1 rfl) ?_
    refine lv_iload_n hx hb d_AlarmL_addAlarm_22 rfl (lv_at hl 2 rfl) ?_
    refine lv_aload_n hx hb d_AlarmL_addAlarm_23 rfl (lv_at hl 3 rfl) ?_
    refine mm_get E hZ cl_Item fl_AlarmL_24 (by decide) h4 rfl d_AlarmL_addAlarm_24 ?_
    refine lv_aload_n hx hb d_AlarmL_addAlarm_27 rfl (lv_at hl 3 rfl) ?_
    refine mm_get E hZ cl_Item fl_AlarmL_30 (by decide) h4 rfl d_AlarmL_addAlarm_28 ?_
    refine lv_aload_n hx hb d_AlarmL_addAlarm_31 rfl (lv_at hl 3 rfl) ?_
    refine mm_get E hZ cl_Item fl_AlarmL_33 (by decide) h4 rfl d_AlarmL_addAlarm_32 ?_
    refine lv_l2i hx hb d_AlarmL_addAlarm_35 rfl ?_
    refine mm_callv (mm_runI (As := [.int nu, .int ki, .int ro, .int pl, .int du.toInt32]) (rest := [.ref q, .ref lt]) E hZ hml hl.1 lk_AlarmL_37 me_Alarm_init in_Alarm_init (c_Alarm_init l g h5 nu ki ro pl du.toInt32) ⟨Nat.le_of_ble_eq_true rfl, Nat.le_of_ble_eq_true rfl⟩ rfl (Nat.le_of_ble_eq_true rfl) d_AlarmL_addAlarm_36 ⟨by show 0 + 0 + 1 + 0 ≤ 1 + alC c n; omega, by show 0 + 0 + 5 + 0 ≤ 5 + alS c n; omega⟩) hZ (fun Mr H locs hp hZ => ?_)
    have hs1 : ∀ u, mm_same u M0 Mr := fun u => by
      rw [hp, eM2, mm_uu]
      exact mm_same.new hNq _
    have hqr := (congrFun hp q).trans (mm_self _ _ _)
    have hT := h0.kept (M' := Mr) (fun u _ => hs1 u)
    obtain ⟨vsr, hvr⟩ := hT.2.1.obj
    refine mm_calli (mm_runV (As := [.ref q]) (rest := []) E hZ hml hl.1 lk_AlarmL_40 me_AL_add1 in_AL_add1 (c_AL_add1 l g (by decide) hT.2.1 hn19 (tl_el hT) hqr rfl alarm_cast (by decide)) hvr cl_AL.1 ⟨Nat.le_of_ble_eq_true rfl, Nat.le_of_ble_eq_true rfl⟩ rfl (Nat.le_of_ble_eq_true rfl) d_AlarmL_addAlarm_39 ⟨by show 0 + 0 + 1 + 0 + alC c n ≤ 1 + alC c n; omega, by show 0 + 0 + 5 + 0 + alS c n ≤ 5 + alS c n; omega⟩) hZ (fun r7 Mx H locs hp hZ => ?_)
    obtain ⟨hr1, hal2, hs2⟩ := hp
    refine lv_pop hx hb d_AlarmL_addAlarm_42 rfl ?_
    refine W.widen (k := 1 + alC c n) (n := 5 + alS c n) (by show 0 + 0 + 1 + 0 + alC c n ≤ 1 + alC c n; omega) (by show 0 + 0 + 5 + 0 + alS c n ≤ 5 + alS c n; omega) ?_
    exact mm_vret E hr hlk eQ hZ d_AlarmL_addAlarm_43 ⟨rfl, Or.inr ⟨hc4, q, ⟨hs2 4 (by decide) _ _ hT.1, hal2, fun i hi => by
        by_cases z : i = c
        · subst z; rw [va_up_self, va_up_self]; exact hs2 12 (by decide) _ _ hqr
        · rw [va_up_ne _ _ z, va_up_ne _ _ z]; exact hs2 12 (by decide) _ _ (hT.2.2 i (by omega))⟩, fun u hu => (hs1 u).tr (hs2 u hu)⟩⟩
