/-! THE CLASS: tellLate, tellLost, tick. The state that a tick moves: items, late counts, alarms told, their parts, the level of their list -/
abbrev tS : Type := (Nat → itS) × (Nat → Int32) × Nat × (Nat → Nat → Int32) × Nat
abbrev itLa (w : itS) : itS := (w.1, w.2.1, w.2.2.1, w.2.2.2.1, w.2.2.2.2.1, w.2.2.2.2.2.1, 1, w.2.2.2.2.2.2.2)
abbrev itLo (w : itS) : itS := (w.1, w.2.1, w.2.2.1, w.2.2.2.1, w.2.2.2.2.1, w.2.2.2.2.2.1, w.2.2.2.2.2.2.1, 1)
def tld (ct : Nat) (F : Nat → Nat → Int32) (kt i : Nat) (k : Int32) (w : itS) : Nat × (Nat → Nat → Int32) × Nat := if ct < 400 then (ct + 1, va_up F ct (alv (nI i) k w.2.2.2.1 w.2.2.2.2.1 w.2.2.2.2.2.1.toInt32), lvl ct kt) else (ct, F, kt)
abbrev isLa (w : itS) (ck : Int64) : Prop := ¬ w.2.2.2.1 = 0 ∧ w.2.2.2.2.2.2.1 = 0 ∧ w.2.2.2.2.2.1 < ck
abbrev isLo (w : itS) (ck : Int64) : Prop := ¬ w.2.2.2.1 = 0 ∧ w.2.2.2.2.2.2.2 = 0 ∧ 864000 < ck - w.2.2.2.2.2.1
def xLate (ck : Int64) (i : Nat) (s : tS) : tS := if isLa (s.1 i) ck then (va_up s.1 i (itLa (s.1 i)), va_up s.2.1 (s.1 i).2.2.2.2.1.toNatClampNeg (s.2.1 (s.1 i).2.2.2.2.1.toNatClampNeg + 1), tld s.2.2.1 s.2.2.2.1 s.2.2.2.2 i 1 (s.1 i)) else s
def xLost (ck : Int64) (i : Nat) (s : tS) : tS := if isLo (s.1 i) ck then (va_up s.1 i (itLo (s.1 i)), s.2.1, tld s.2.2.1 s.2.2.2.1 s.2.2.2.2 i 2 (s.1 i)) else s
def xTk (ck : Int64) (s : tS) : Nat → tS
  | 0 => s
  | i + 1 => xLost ck i (xLate ck i (xTk ck s i))
/-- what stays within bounds -/
def tOk (s : tS) : Prop := (∀ j, j < 200 → ∃ p, p < 50 ∧ (s.1 j).2.2.2.2.1 = nI p) ∧ s.2.2.1 ≤ 400 ∧ s.2.2.1 ≤ cp s.2.2.2.2 ∧ s.2.2.2.2 ≤ 11
theorem tld_ok {ct kt i : Nat} {F : Nat → Nat → Int32} {k : Int32} {w : itS} (h1 : ct ≤ 400) (h2 : ct ≤ cp kt) (h3 : kt ≤ 11) : (tld ct F kt i k w).1 ≤ 400 ∧ (tld ct F kt i k w).1 ≤ cp (tld ct F kt i k w).2.2 ∧ (tld ct F kt i k w).2.2 ≤ 11 ∧ kt ≤ (tld ct F kt i k w).2.2 := by
  unfold tld
  by_cases z : ct < 400
  · rw [if_pos z]
    have h := lvl_M ct kt h2
    refine ⟨by show ct + 1 ≤ 400; omega, ?_, lvl_le (n := 400) h3 z (by rw [cp_11]; decide), h.2.2.2.1⟩
    show ct + 1 ≤ cp (lvl ct kt)
    unfold lvl
    by_cases y : ct < cp kt
    · rw [if_pos y]; omega
    · rw [if_neg y]; have := cp_mono kt; omega
  · rw [if_neg z]; exact ⟨h1, h2, h3, Nat.le_refl _⟩
theorem xLate_ok {ck : Int64} {i : Nat} {s : tS} (h : tOk s) : tOk (xLate ck i s) ∧ s.2.2.2.2 ≤ (xLate ck i s).2.2.2.2 := by
  unfold xLate
  by_cases z : isLa (s.1 i) ck
  · rw [if_pos z]
    have k := tld_ok (i := i) (F := s.2.2.2.1) (k := 1) (w := s.1 i) h.2.1 h.2.2.1 h.2.2.2
    refine ⟨⟨fun j hj => ?_, k.1, k.2.1, k.2.2.1⟩, k.2.2.2⟩
    show ∃ p, p < 50 ∧ (va_up s.1 i (itLa (s.1 i)) j).2.2.2.2.1 = nI p
    by_cases y : j = i
    · subst y; rw [va_up_self]; exact h.1 j hj
    · rw [va_up_ne _ _ y]; exact h.1 j hj
  · rw [if_neg z]; exact ⟨h, Nat.le_refl _⟩
theorem xLost_ok {ck : Int64} {i : Nat} {s : tS} (h : tOk s) : tOk (xLost ck i s) ∧ s.2.2.2.2 ≤ (xLost ck i s).2.2.2.2 := by
  unfold xLost
  by_cases z : isLo (s.1 i) ck
  · rw [if_pos z]
    have k := tld_ok (i := i) (F := s.2.2.2.1) (k := 2) (w := s.1 i) h.2.1 h.2.2.1 h.2.2.2
    refine ⟨⟨fun j hj => ?_, k.1, k.2.1, k.2.2.1⟩, k.2.2.2⟩
    show ∃ p, p < 50 ∧ (va_up s.1 i (itLo (s.1 i)) j).2.2.2.2.1 = nI p
    by_cases y : j = i
    · subst y; rw [va_up_self]; exact h.1 j hj
    · rw [va_up_ne _ _ y]; exact h.1 j hj
  · rw [if_neg z]; exact ⟨h, Nat.le_refl _⟩
theorem xTk_ok {ck : Int64} {s : tS} (h : tOk s) : ∀ i, tOk (xTk ck s i) ∧ s.2.2.2.2 ≤ (xTk ck s i).2.2.2.2
  | 0 => ⟨h, Nat.le_refl _⟩
  | i + 1 => by
    have h1 := xTk_ok (ck := ck) h i
    have h2 := xLate_ok (ck := ck) (i := i) h1.1
    have h3 := xLost_ok (ck := ck) (i := i) h2.1
    exact ⟨h3.1, Nat.le_trans h1.2 (Nat.le_trans h2.2 h3.2)⟩
/-- what an alarm needs at most: the list's growth as levels -/
theorem al_lv {ct kt : Nat} (h1 : ct ≤ 400) (h2 : ct ≤ cp kt) (h3 : kt ≤ 11) {F : Nat → Nat → Int32} {i : Nat} {k : Int32} {w : itS} : alC ct (cp kt) = (tld ct F kt i k w).2.2 - kt ∧ alS ct (cp kt) = cs (tld ct F kt i k w).2.2 - cs kt ∧ (ct < 400 → (tld ct F kt i k w).2.2 = lvl ct kt ∧ alM ct (cp kt) = cp (lvl ct kt)) := by
  have h := lvl_M ct kt h2
  unfold tld
  by_cases z : ct < 400
  · rw [if_pos z]; exact ⟨h.2.1, h.2.2.1, fun _ => ⟨rfl, h.1⟩⟩
  · rw [if_neg z]
    have h4 : ct < cp kt := by
      have h5 : ¬ kt ≤ 10 := fun y => by have := cp_le y; rw [show cp 10 = 366 by decide] at this; omega
      rw [show kt = 11 by omega, cp_11]; omega
    unfold alC alS
    rw [if_pos h4, if_pos h4]
    exact ⟨(Nat.sub_self _).symm, (Nat.sub_self _).symm, fun y => absurd y z⟩
set_option maxHeartbeats 4000000 in
set_option maxRecDepth 100000 in
theorem c_X_tellLate (l : Launch) (g : mm_G) {M0 : mm_M} {a : Nat → Nat} {ad at0 fa : Nat → Nat} {kr kf kt c cf ct ch cd : Nat} {R : Nat → rowS} {fr : Nat → Nat} {fh : Nat → Int64} {F : Nat → Nat → Int32} {fb fl fd fs : Nat → Int32} {v : Nat → itS} {ck : Int64} (h : Xi g M0 a ad at0 fa kr kf kt c cf ct ch cd R fr fh F fb fl fd fs v ck) {j : Nat} (hj : j < 200) (hpl : ∃ p, p < 50 ∧ (v j).2.2.2.2.1 = nI p) (hct : ct ≤ 400) (hcp : ct ≤ cp kt) (hk11 : kt ≤ 11) : Cv l g y_X_tellLate b_X_tellLate 3 (rk 8 194 (1 + ((xLate ck j (v, fl, ct, F, kt)).2.2.2.2 - kt)) (5 + (cs (xLate ck j (v, fl, ct, F, kt)).2.2.2.2 - cs kt))) M0 [.ref (a 0), .int (nI j), .ref (fa j)] (fun M' => ∃ at2, Xi g M' a ad at2 fa kr kf ((xLate ck j (v, fl, ct, F, kt)).2.2.2.2) c cf ((xLate ck j (v, fl, ct, F, kt)).2.2.1) ch cd R fr fh ((xLate ck j (v, fl, ct, F, kt)).2.2.2.1) fb ((xLate ck j (v, fl, ct, F, kt)).2.1) fd fs ((xLate ck j (v, fl, ct, F, kt)).1) ck ∧ ∀ u, 19 ≤ u → mm_same u M0 M') := by
  refine mm_enter (by decide) (Nat.le_of_ble_eq_true rfl) (fun pG eV s m args below meth cdx ls Q E hml hr hlk hnm hZ hl eQ => ?_)
  have hx := E.1
  have hb := E.2.1
  have hl : lv_has ls 3 [(0, .ref (a 0)), (1, .int (nI j)), (2, .ref (fa j))] := hl
  have hox := h.x
  have hej := h.item hj
  refine lv_aload_n hx hb d_X_tellLate_0 rfl (lv_at hl 2 rfl) ?_
  refine mm_calli (mm_runV (As := []) (rest := []) E hZ hml hl.1 lk_X_199 me_Item_isExpected in_Item_isExpected (c_Item_isExpected l g hej) hej cl_Item.1 ⟨Nat.le_of_ble_eq_true rfl, Nat.le_of_ble_eq_true rfl⟩ rfl (Nat.le_of_ble_eq_true rfl) d_X_tellLate_1 ⟨by show 0 + 0 ≤ 1 + ((xLate ck j (v, fl, ct, F, kt)).2.2.2.2 - kt); omega, by show 0 + 0 ≤ 5 + (cs (xLate ck j (v, fl, ct, F, kt)).2.2.2.2 - cs kt); omega⟩) hZ (fun r1 M1 H locs hp hZ => ?_)
  rw [hp.1] at hZ
  replace hp := hp.2
  refine lv_if_eq (tgt := 52) hx hb d_X_tellLate_4 (by decide) (fun c4 => ?_) (fun c4 => ?_)
  · have hS : (xLate ck j (v, fl, ct, F, kt)) = (v, fl, ct, F, kt) := if_neg (fun z => b32_eq0.mp (hp ▸ c4) z.1)
    refine W.widen (k := 1 + ((xLate ck j (v, fl, ct, F, kt)).2.2.2.2 - kt)) (n := 5 + (cs (xLate ck j (v, fl, ct, F, kt)).2.2.2.2 - cs kt)) (by show 0 + 0 ≤ 1 + ((xLate ck j (v, fl, ct, F, kt)).2.2.2.2 - kt); omega) (by show 0 + 0 ≤ 5 + (cs (xLate ck j (v, fl, ct, F, kt)).2.2.2.2 - cs kt); omega) ?_
    exact mm_vret E hr hlk eQ hZ d_X_tellLate_52 ⟨rfl, at0, by rw [hS]; exact h, fun u _ => mm_same.rf⟩
  · refine lv_aload_n hx hb d_X_tellLate_7 rfl (lv_at hl 2 rfl) ?_
    refine mm_get E hZ cl_Item fl_X_203 (by decide) hej rfl d_X_tellLate_8 ?_
    refine lv_if_ne (tgt := 52) hx hb d_X_tellLate_11 (by decide) (fun c11 => ?_) (fun c11 => ?_)
    · have hS : (xLate ck j (v, fl, ct, F, kt)) = (v, fl, ct, F, kt) := if_neg (fun z => c11 z.2.1)
      refine W.widen (k := 1 + ((xLate ck j (v, fl, ct, F, kt)).2.2.2.2 - kt)) (n := 5 + (cs (xLate ck j (v, fl, ct, F, kt)).2.2.2.2 - cs kt)) (by show 0 + 0 ≤ 1 + ((xLate ck j (v, fl, ct, F, kt)).2.2.2.2 - kt); omega) (by show 0 + 0 ≤ 5 + (cs (xLate ck j (v, fl, ct, F, kt)).2.2.2.2 - cs kt); omega) ?_
      exact mm_vret E hr hlk eQ hZ d_X_tellLate_52 ⟨rfl, at0, by rw [hS]; exact h, fun u _ => mm_same.rf⟩
    · refine lv_aload_n hx hb d_X_tellLate_14 rfl (lv_at hl 2 rfl) ?_
      refine mm_get E hZ cl_Item fl_X_206 (by decide) hej rfl d_X_tellLate_15 ?_
      refine lv_aload_n hx hb d_X_tellLate_18 rfl (lv_at hl 0 rfl) ?_
      refine mm_get E hZ cl_X fl_X_50 (by decide) hox rfl d_X_tellLate_19 ?_
      refine W.lcmp hx hb d_X_tellLate_22 ?_
      refine lv_if_ge (tgt := 52) hx hb d_X_tellLate_23 (by decide) (fun c23 => ?_) (fun c23 => ?_)
      · have c23 := (lg_cmp_ge _ _).mp c23
        have hS : (xLate ck j (v, fl, ct, F, kt)) = (v, fl, ct, F, kt) := if_neg (fun z => absurd z.2.2 (Int64.not_lt.mpr c23))
        refine W.widen (k := 1 + ((xLate ck j (v, fl, ct, F, kt)).2.2.2.2 - kt)) (n := 5 + (cs (xLate ck j (v, fl, ct, F, kt)).2.2.2.2 - cs kt)) (by show 0 + 0 ≤ 1 + ((xLate ck j (v, fl, ct, F, kt)).2.2.2.2 - kt); omega) (by show 0 + 0 ≤ 5 + (cs (xLate ck j (v, fl, ct, F, kt)).2.2.2.2 - cs kt); omega) ?_
        exact mm_vret E hr hlk eQ hZ d_X_tellLate_52 ⟨rfl, at0, by rw [hS]; exact h, fun u _ => mm_same.rf⟩
      · have c23 := mt (lg_cmp_ge _ _).mpr c23
        have hc : isLa (v j) ck := ⟨b32_ne0 (hp ▸ c4), c11, Int64.not_le.mp c23⟩
        clear hp
        have hS : (xLate ck j (v, fl, ct, F, kt)) = (va_up v j (itLa (v j)), va_up fl (v j).2.2.2.2.1.toNatClampNeg (fl (v j).2.2.2.2.1.toNatClampNeg + 1), tld ct F kt j 1 (v j)) := if_pos hc
        have hal := al_lv hct hcp hk11 (F := F) (i := j) (k := 1) (w := v j)
        obtain ⟨p, hp5, epl⟩ := hpl
        skip
        refine lv_aload_n hx hb d_X_tellLate_26 rfl (lv_at hl 2 rfl) ?_
        refine lv_iconst (v := 1) hx hb d_X_tellLate_27 (by decide) ?_
        refine mm_put E hZ cl_Item fl_X_203 (by decide) rfl hej (by decide) rfl rfl (Nat.le_of_ble_eq_true rfl) d_X_tellLate_28 (fun H locs hZ => ?_)
        obtain ⟨M2, eM2⟩ : ∃ zz : mm_M, zz = mm_up M0 (fa j) (ob 7 5 [.int ((v j).1), .long ((v j).2.1), .long ((v j).2.2.1), .int ((v j).2.2.2.1), .int ((v j).2.2.2.2.1), .long ((v j).2.2.2.2.2.1), .int 1, .int ((v j).2.2.2.2.2.2.2)]) := ⟨_, rfl⟩
        have hZ : mm_S g s M2 H locs := by rw [eM2]; exact hZ
        have h3 := (congrFun eM2 (a 0)).trans ((mm_ne _ _ (mm_tag hox hej (by decide))).trans hox)
        have h4 := (congrFun eM2 (fa j)).trans (mm_self _ _ _)
        refine lv_aload_n hx hb d_X_tellLate_31 rfl (lv_at hl 0 rfl) ?_
        refine mm_get E hZ cl_X fl_X_33 (by decide) h3 rfl d_X_tellLate_32 ?_
        refine lv_aload_n hx hb d_X_tellLate_35 rfl (lv_at hl 2 rfl) ?_
        refine mm_get E hZ cl_Item fl_X_209 (by decide) h4 rfl d_X_tellLate_36 ?_
        have hX2 : Xi g M2 a ad at0 fa kr kf kt c cf ct ch cd R fr fh F fb fl fd fs (va_up v j (itLa (v j))) ck := by rw [eM2]; exact h.upI hj (itLa (v j))
        have hs1 : ∀ u, u ≠ 7 → mm_same u M0 M2 := fun u hu => by rw [eM2]; exact mm_same.up hej hu _
        have hej2 := hX2.item hj
        rw [va_up_self] at hej2
        rw [epl]
        refine mm_callv (mm_runV (As := [.int (nI p)]) (rest := []) E hZ hml hl.1 lk_X_212 me_Cnts_addLate in_Cnts_addLate (c_Cnts_addLate l g hX2.cn hp5) hX2.cn.1 cl_Cnts.1 ⟨Nat.le_of_ble_eq_true rfl, Nat.le_of_ble_eq_true rfl⟩ rfl (Nat.le_of_ble_eq_true rfl) d_X_tellLate_39 ⟨by show 0 + 0 + 0 ≤ 1 + ((xLate ck j (v, fl, ct, F, kt)).2.2.2.2 - kt); omega, by show 0 + 0 + 0 ≤ 5 + (cs (xLate ck j (v, fl, ct, F, kt)).2.2.2.2 - cs kt); omega⟩) hZ (fun My H locs hp hZ => ?_)
        have hX3 := hX2.upL hp.1 hp.2
        have hs2 := hp.2
        have hej3 := hX3.item hj
        rw [va_up_self] at hej3
        have hox3 := hX3.x
        have hq : (v j).2.2.2.2.1.toNatClampNeg = p := by rw [epl]; exact nI_clamp (by omega)
        rw [hq] at hS
        clear hp
        refine lv_aload_n hx hb d_X_tellLate_42 rfl (lv_at hl 0 rfl) ?_
        refine mm_get E hZ cl_X fl_X_26 (by decide) hox3 rfl d_X_tellLate_43 ?_
        refine lv_iload_n hx hb d_X_tellLate_46 rfl (lv_at hl 1 rfl) ?_
        refine lv_iconst (v := 1) hx hb d_X_tellLate_47 (by decide) ?_
        refine lv_aload_n hx hb d_X_tellLate_48 rfl (lv_at hl 2 rfl) ?_
        rw [hS]
        refine mm_callv (mm_runV (As := [.int (nI j), .int 1, .ref (fa j)]) (rest := []) E hZ hml hl.1 lk_X_215 me_AlarmL_addAlarm in_AlarmL_addAlarm (c_AlarmL_addAlarm l g hX3.tl (cp_19 hk11) (nI j) 1 hej3) hX3.tl.1 cl_AlarmL.1 ⟨Nat.le_of_ble_eq_true rfl, Nat.le_of_ble_eq_true rfl⟩ rfl (Nat.le_of_ble_eq_true rfl) d_X_tellLate_49 ⟨by show 0 + 0 + 0 + (1 + alC ct (cp kt)) ≤ 1 + ((tld ct F kt j 1 (v j)).2.2 - kt); omega, by show 0 + 0 + 0 + (5 + alS ct (cp kt)) ≤ 5 + (cs (tld ct F kt j 1 (v j)).2.2 - cs kt); omega⟩) hZ (fun Mz H locs hp hZ => ?_)
        have hX4 : ∃ at2, Xi g Mz a ad at2 fa kr kf ((tld ct F kt j 1 (v j)).2.2) c cf ((tld ct F kt j 1 (v j)).1) ch cd R fr fh ((tld ct F kt j 1 (v j)).2.1) fb (va_up fl p (fl p + 1)) fd fs (va_up v j (itLa (v j))) ck ∧ ∀ u, u ≠ 11 → mm_same u My Mz := by
          rcases hp with ⟨h4, eM⟩ | ⟨h4, q, hT, hs⟩
          · have ht : tld ct F kt j 1 (v j) = (ct, F, kt) := if_neg (by omega)
            rw [ht, eM]; exact ⟨at0, hX3, fun u _ => mm_same.rf⟩
          · have ht : tld ct F kt j 1 (v j) = (ct + 1, va_up F ct (alv (nI j) 1 (v j).2.2.2.1 (v j).2.2.2.2.1 (v j).2.2.2.2.2.1.toInt32), lvl ct kt) := if_pos h4
            rw [(hal.2.2 h4).2] at hT
            rw [ht]; exact ⟨_, hX3.upT hT hs, hs⟩
        obtain ⟨at2, hX4, hs4⟩ := hX4
        refine W.widen (k := 1 + ((tld ct F kt j 1 (v j)).2.2 - kt)) (n := 5 + (cs (tld ct F kt j 1 (v j)).2.2 - cs kt)) (by show 0 + 0 + 0 + (1 + alC ct (cp kt)) ≤ _; omega) (by show 0 + 0 + 0 + (5 + alS ct (cp kt)) ≤ _; omega) ?_
        rw [hS] at eQ
        exact mm_vret E hr hlk eQ hZ d_X_tellLate_52 ⟨rfl, at2, hX4, fun u hu => ((hs1 u (by omega)).tr (hs2 u (by omega))).tr (hs4 u (by omega))⟩
set_option maxHeartbeats 4000000 in
set_option maxRecDepth 100000 in
theorem c_X_tellLost (l : Launch) (g : mm_G) {M0 : mm_M} {a : Nat → Nat} {ad at0 fa : Nat → Nat} {kr kf kt c cf ct ch cd : Nat} {R : Nat → rowS} {fr : Nat → Nat} {fh : Nat → Int64} {F : Nat → Nat → Int32} {fb fl fd fs : Nat → Int32} {v : Nat → itS} {ck : Int64} (h : Xi g M0 a ad at0 fa kr kf kt c cf ct ch cd R fr fh F fb fl fd fs v ck) {j : Nat} (hj : j < 200) (hpl : ∃ p, p < 50 ∧ (v j).2.2.2.2.1 = nI p) (hct : ct ≤ 400) (hcp : ct ≤ cp kt) (hk11 : kt ≤ 11) : Cv l g y_X_tellLost b_X_tellLost 3 (rk 8 194 (1 + ((xLost ck j (v, fl, ct, F, kt)).2.2.2.2 - kt)) (5 + (cs (xLost ck j (v, fl, ct, F, kt)).2.2.2.2 - cs kt))) M0 [.ref (a 0), .int (nI j), .ref (fa j)] (fun M' => ∃ at2, Xi g M' a ad at2 fa kr kf ((xLost ck j (v, fl, ct, F, kt)).2.2.2.2) c cf ((xLost ck j (v, fl, ct, F, kt)).2.2.1) ch cd R fr fh ((xLost ck j (v, fl, ct, F, kt)).2.2.2.1) fb ((xLost ck j (v, fl, ct, F, kt)).2.1) fd fs ((xLost ck j (v, fl, ct, F, kt)).1) ck ∧ ∀ u, 19 ≤ u → mm_same u M0 M') := by
  refine mm_enter (by decide) (Nat.le_of_ble_eq_true rfl) (fun pG eV s m args below meth cdx ls Q E hml hr hlk hnm hZ hl eQ => ?_)
  have hx := E.1
  have hb := E.2.1
  have hl : lv_has ls 3 [(0, .ref (a 0)), (1, .int (nI j)), (2, .ref (fa j))] := hl
  have hox := h.x
  have hej := h.item hj
  refine lv_aload_n hx hb d_X_tellLost_0 rfl (lv_at hl 2 rfl) ?_
  refine mm_calli (mm_runV (As := []) (rest := []) E hZ hml hl.1 lk_X_199 me_Item_isExpected in_Item_isExpected (c_Item_isExpected l g hej) hej cl_Item.1 ⟨Nat.le_of_ble_eq_true rfl, Nat.le_of_ble_eq_true rfl⟩ rfl (Nat.le_of_ble_eq_true rfl) d_X_tellLost_1 ⟨by show 0 + 0 ≤ 1 + ((xLost ck j (v, fl, ct, F, kt)).2.2.2.2 - kt); omega, by show 0 + 0 ≤ 5 + (cs (xLost ck j (v, fl, ct, F, kt)).2.2.2.2 - cs kt); omega⟩) hZ (fun r1 M1 H locs hp hZ => ?_)
  rw [hp.1] at hZ
  replace hp := hp.2
  refine lv_if_eq (tgt := 45) hx hb d_X_tellLost_4 (by decide) (fun c4 => ?_) (fun c4 => ?_)
  · have hS : (xLost ck j (v, fl, ct, F, kt)) = (v, fl, ct, F, kt) := if_neg (fun z => b32_eq0.mp (hp ▸ c4) z.1)
    refine W.widen (k := 1 + ((xLost ck j (v, fl, ct, F, kt)).2.2.2.2 - kt)) (n := 5 + (cs (xLost ck j (v, fl, ct, F, kt)).2.2.2.2 - cs kt)) (by show 0 + 0 ≤ 1 + ((xLost ck j (v, fl, ct, F, kt)).2.2.2.2 - kt); omega) (by show 0 + 0 ≤ 5 + (cs (xLost ck j (v, fl, ct, F, kt)).2.2.2.2 - cs kt); omega) ?_
    exact mm_vret E hr hlk eQ hZ d_X_tellLost_45 ⟨rfl, at0, by rw [hS]; exact h, fun u _ => mm_same.rf⟩
  · refine lv_aload_n hx hb d_X_tellLost_7 rfl (lv_at hl 2 rfl) ?_
    refine mm_get E hZ cl_Item fl_X_158 (by decide) hej rfl d_X_tellLost_8 ?_
    refine lv_if_ne (tgt := 45) hx hb d_X_tellLost_11 (by decide) (fun c11 => ?_) (fun c11 => ?_)
    · have hS : (xLost ck j (v, fl, ct, F, kt)) = (v, fl, ct, F, kt) := if_neg (fun z => c11 z.2.1)
      refine W.widen (k := 1 + ((xLost ck j (v, fl, ct, F, kt)).2.2.2.2 - kt)) (n := 5 + (cs (xLost ck j (v, fl, ct, F, kt)).2.2.2.2 - cs kt)) (by show 0 + 0 ≤ 1 + ((xLost ck j (v, fl, ct, F, kt)).2.2.2.2 - kt); omega) (by show 0 + 0 ≤ 5 + (cs (xLost ck j (v, fl, ct, F, kt)).2.2.2.2 - cs kt); omega) ?_
      exact mm_vret E hr hlk eQ hZ d_X_tellLost_45 ⟨rfl, at0, by rw [hS]; exact h, fun u _ => mm_same.rf⟩
    · refine lv_aload_n hx hb d_X_tellLost_14 rfl (lv_at hl 0 rfl) ?_
      refine mm_get E hZ cl_X fl_X_50 (by decide) hox rfl d_X_tellLost_15 ?_
      refine lv_aload_n hx hb d_X_tellLost_18 rfl (lv_at hl 2 rfl) ?_
      refine mm_get E hZ cl_Item fl_X_206 (by decide) hej rfl d_X_tellLost_19 ?_
      refine lv_lsub hx hb d_X_tellLost_22 ?_
      refine lv_ldc2 (v := 864000) hx hb E.2.2.1 (E.2.2.2.1 _ w_442) d_X_tellLost_23 ?_
      refine W.lcmp hx hb d_X_tellLost_26 ?_
      refine lv_if_le (tgt := 45) hx hb d_X_tellLost_27 (by decide) (fun c27 => ?_) (fun c27 => ?_)
      · have c27 := (lg_cmp_le _ _).mp c27
        have hS : (xLost ck j (v, fl, ct, F, kt)) = (v, fl, ct, F, kt) := if_neg (fun z => absurd z.2.2 (Int64.not_lt.mpr c27))
        refine W.widen (k := 1 + ((xLost ck j (v, fl, ct, F, kt)).2.2.2.2 - kt)) (n := 5 + (cs (xLost ck j (v, fl, ct, F, kt)).2.2.2.2 - cs kt)) (by show 0 + 0 ≤ 1 + ((xLost ck j (v, fl, ct, F, kt)).2.2.2.2 - kt); omega) (by show 0 + 0 ≤ 5 + (cs (xLost ck j (v, fl, ct, F, kt)).2.2.2.2 - cs kt); omega) ?_
        exact mm_vret E hr hlk eQ hZ d_X_tellLost_45 ⟨rfl, at0, by rw [hS]; exact h, fun u _ => mm_same.rf⟩
      · have c27 := mt (lg_cmp_le _ _).mpr c27
        have hc : isLo (v j) ck := ⟨b32_ne0 (hp ▸ c4), c11, Int64.not_le.mp c27⟩
        clear hp
        have hS : (xLost ck j (v, fl, ct, F, kt)) = (va_up v j (itLo (v j)), fl, tld ct F kt j 2 (v j)) := if_pos hc
        have hal := al_lv hct hcp hk11 (F := F) (i := j) (k := 2) (w := v j)
        obtain ⟨p, hp5, epl⟩ := hpl
        skip
        refine lv_aload_n hx hb d_X_tellLost_30 rfl (lv_at hl 2 rfl) ?_
        refine lv_iconst (v := 1) hx hb d_X_tellLost_31 (by decide) ?_
        refine mm_put E hZ cl_Item fl_X_158 (by decide) rfl hej (by decide) rfl rfl (Nat.le_of_ble_eq_true rfl) d_X_tellLost_32 (fun H locs hZ => ?_)
        obtain ⟨M2, eM2⟩ : ∃ zz : mm_M, zz = mm_up M0 (fa j) (ob 7 5 [.int ((v j).1), .long ((v j).2.1), .long ((v j).2.2.1), .int ((v j).2.2.2.1), .int ((v j).2.2.2.2.1), .long ((v j).2.2.2.2.2.1), .int ((v j).2.2.2.2.2.2.1), .int 1]) := ⟨_, rfl⟩
        have hZ : mm_S g s M2 H locs := by rw [eM2]; exact hZ
        have h3 := (congrFun eM2 (a 0)).trans ((mm_ne _ _ (mm_tag hox hej (by decide))).trans hox)
        have h4 := (congrFun eM2 (fa j)).trans (mm_self _ _ _)
        refine lv_aload_n hx hb d_X_tellLost_35 rfl (lv_at hl 0 rfl) ?_
        refine mm_get E hZ cl_X fl_X_26 (by decide) h3 rfl d_X_tellLost_36 ?_
        refine lv_iload_n hx hb d_X_tellLost_39 rfl (lv_at hl 1 rfl) ?_
        refine lv_iconst (v := 2) hx hb d_X_tellLost_40 (by decide) ?_
        refine lv_aload_n hx hb d_X_tellLost_41 rfl (lv_at hl 2 rfl) ?_
        have hX2 : Xi g M2 a ad at0 fa kr kf kt c cf ct ch cd R fr fh F fb fl fd fs (va_up v j (itLo (v j))) ck := by rw [eM2]; exact h.upI hj (itLo (v j))
        have hs1 : ∀ u, u ≠ 7 → mm_same u M0 M2 := fun u hu => by rw [eM2]; exact mm_same.up hej hu _
        have hej2 := hX2.item hj
        rw [va_up_self] at hej2
        rw [hS]
        refine mm_callv (mm_runV (As := [.int (nI j), .int 2, .ref (fa j)]) (rest := []) E hZ hml hl.1 lk_X_215 me_AlarmL_addAlarm in_AlarmL_addAlarm (c_AlarmL_addAlarm l g hX2.tl (cp_19 hk11) (nI j) 2 hej2) hX2.tl.1 cl_AlarmL.1 ⟨Nat.le_of_ble_eq_true rfl, Nat.le_of_ble_eq_true rfl⟩ rfl (Nat.le_of_ble_eq_true rfl) d_X_tellLost_42 ⟨by show 0 + 0 + (1 + alC ct (cp kt)) ≤ 1 + ((tld ct F kt j 2 (v j)).2.2 - kt); omega, by show 0 + 0 + (5 + alS ct (cp kt)) ≤ 5 + (cs (tld ct F kt j 2 (v j)).2.2 - cs kt); omega⟩) hZ (fun Mz H locs hp hZ => ?_)
        have hX4 : ∃ at2, Xi g Mz a ad at2 fa kr kf ((tld ct F kt j 2 (v j)).2.2) c cf ((tld ct F kt j 2 (v j)).1) ch cd R fr fh ((tld ct F kt j 2 (v j)).2.1) fb fl fd fs (va_up v j (itLo (v j))) ck ∧ ∀ u, u ≠ 11 → mm_same u M2 Mz := by
          rcases hp with ⟨h4, eM⟩ | ⟨h4, q, hT, hs⟩
          · have ht : tld ct F kt j 2 (v j) = (ct, F, kt) := if_neg (by omega)
            rw [ht, eM]; exact ⟨at0, hX2, fun u _ => mm_same.rf⟩
          · have ht : tld ct F kt j 2 (v j) = (ct + 1, va_up F ct (alv (nI j) 2 (v j).2.2.2.1 (v j).2.2.2.2.1 (v j).2.2.2.2.2.1.toInt32), lvl ct kt) := if_pos h4
            rw [(hal.2.2 h4).2] at hT
            rw [ht]; exact ⟨_, hX2.upT hT hs, hs⟩
        obtain ⟨at2, hX4, hs4⟩ := hX4
        refine W.widen (k := 1 + ((tld ct F kt j 2 (v j)).2.2 - kt)) (n := 5 + (cs (tld ct F kt j 2 (v j)).2.2 - cs kt)) (by show 0 + 0 + (1 + alC ct (cp kt)) ≤ _; omega) (by show 0 + 0 + (5 + alS ct (cp kt)) ≤ _; omega) ?_
        rw [hS] at eQ
        exact mm_vret E hr hlk eQ hZ d_X_tellLost_45 ⟨rfl, at2, hX4, fun u hu => (hs1 u (by omega)).tr (hs4 u (by omega))⟩
theorem cs_11 : cs 11 = 1633 := by decide
set_option maxHeartbeats 4000000 in
set_option maxRecDepth 100000 in
theorem c_X_tick (l : Launch) (g : mm_G) {M0 : mm_M} {a : Nat → Nat} {ad at0 fa : Nat → Nat} {kr kf kt c cf ct ch cd : Nat} {R : Nat → rowS} {fr : Nat → Nat} {fh : Nat → Int64} {F : Nat → Nat → Int32} {fb fl fd fs : Nat → Int32} {v : Nat → itS} {ck : Int64} (h : Xi g M0 a ad at0 fa kr kf kt c cf ct ch cd R fr fh F fb fl fd fs v ck) (hOk : tOk (v, fl, ct, F, kt)) (t : Int64) : Ci l g y_X_tick b_X_tick 5 .int (rk 9 216 411 3633) M0 [.ref (a 0), .long t] (fun r M' => (¬ (ck ≤ t ∧ t ≤ 2000000000) ∧ r = (-102) ∧ M' = M0) ∨ ((ck ≤ t ∧ t ≤ 2000000000) ∧ r = nI (xTk t (v, fl, ct, F, kt) 200).2.2.1 - nI ct ∧ ∃ at2, Xi g M' a ad at2 fa kr kf ((xTk t (v, fl, ct, F, kt) 200).2.2.2.2) c cf ((xTk t (v, fl, ct, F, kt) 200).2.2.1) ch cd R fr fh ((xTk t (v, fl, ct, F, kt) 200).2.2.2.1) fb ((xTk t (v, fl, ct, F, kt) 200).2.1) fd fs ((xTk t (v, fl, ct, F, kt) 200).1) t ∧ ∀ u, 19 ≤ u → mm_same u M0 M')) := by
  refine mm_enter (by decide) (Nat.le_of_ble_eq_true rfl) (fun pG eV s m args below meth cdx ls Q E hml hr hlk hnm hZ hl eQ => ?_)
  have hx := E.1
  have hb := E.2.1
  have hl : lv_has ls 5 [(0, .ref (a 0)), (1, .long t)] := hl
  have hox := h.x
  refine lv_lload_n hx hb d_X_tick_0 rfl (lv_at hl 1 rfl) ?_
  refine lv_aload_n hx hb d_X_tick_1 rfl (lv_at hl 0 rfl) ?_
  refine mm_get E hZ cl_X fl_X_50 (by decide) hox rfl d_X_tick_2 ?_
  refine W.lcmp hx hb d_X_tick_5 ?_
  refine lv_if_lt (tgt := 17) hx hb d_X_tick_6 (by decide) (fun c6 => ?_) (fun c6 => ?_)
  · have c6 := (lg_cmp_lt _ _).mp c6
    refine lv_bipush (v := (-102)) hx hb d_X_tick_17 (by decide) ?_
    refine W.widen (k := 411) (n := 3633) (Nat.zero_le _) (Nat.zero_le _) ?_
    exact mm_iret (v := (-102)) E hr hlk eQ hZ d_X_tick_19 ⟨_, rfl, Or.inl ⟨fun z => absurd z.1 (Int64.not_le.mpr c6), rfl, rfl⟩⟩
  · have c6 := mt (lg_cmp_lt _ _).mpr c6
    refine lv_lload_n hx hb d_X_tick_9 rfl (lv_at hl 1 rfl) ?_
    refine lv_ldc2 (v := 2000000000) hx hb E.2.2.1 (E.2.2.2.1 _ w_388) d_X_tick_10 ?_
    refine W.lcmp hx hb d_X_tick_13 ?_
    refine lv_if_le (tgt := 20) hx hb d_X_tick_14 (by decide) (fun c14 => ?_) (fun c14 => ?_)
    · have c14 := (lg_cmp_le _ _).mp c14
      refine lv_aload_n hx hb d_X_tick_20 rfl (lv_at hl 0 rfl) ?_
      refine lv_lload_n hx hb d_X_tick_21 rfl (lv_at hl 1 rfl) ?_
      refine mm_put E hZ cl_X fl_X_50 (by decide) rfl hox (by decide) rfl rfl (Nat.le_of_ble_eq_true rfl) d_X_tick_22 (fun H locs hZ => ?_)
      obtain ⟨M61, eM61⟩ : ∃ zz : mm_M, zz = mm_up M0 (a 0) (ob 1 0 [.ref (a 1), .ref (a 4), .ref (a 6), .ref (a 8), .ref (a 11), .ref (a 14), .long t]) := ⟨_, rfl⟩
      have hZ : mm_S g s M61 H locs := by rw [eM61]; exact hZ
      have h62 := (congrFun eM61 (a 0)).trans (mm_self _ _ _)
      refine lv_aload_n hx hb d_X_tick_25 rfl (lv_at hl 0 rfl) ?_
      refine mm_get E hZ cl_X fl_X_26 (by decide) h62 rfl d_X_tick_26 ?_
      have hX0 : Xi g M61 a ad at0 fa kr kf kt c cf ct ch cd R fr fh F fb fl fd fs v t := by rw [eM61]; exact h.upC t
      have hs0 : ∀ u, 19 ≤ u → mm_same u M0 M61 := fun u hu => by rw [eM61]; exact mm_same.up hox (by omega) _
      refine mm_calli (mm_runV (As := []) (rest := []) E hZ hml hl.1 lk_X_103 me_AlarmL_size in_AlarmL_size (c_AlarmL_size l g hX0.tl) hX0.tl.1 cl_AlarmL.1 ⟨Nat.le_of_ble_eq_true rfl, Nat.le_of_ble_eq_true rfl⟩ rfl (Nat.le_of_ble_eq_true rfl) d_X_tick_29 ⟨Nat.le_of_ble_eq_true rfl, Nat.le_of_ble_eq_true rfl⟩) hZ (fun r63 M1 H locs hp hZ => ?_)
      rw [hp.1] at hZ
      replace hp := hp.2
      subst hp
      refine lv_istore_n (lv' := [(3, .int (nI ct)), (0, .ref (a 0)), (1, .long t)]) hx hb d_X_tick_32 rfl hl (by decide) rfl (fun ls hl => ?_)
      refine lv_iconst (v := 0) hx hb d_X_tick_33 (by decide) ?_
      refine lv_istore (lv' := [(4, .int 0), (3, .int (nI ct)), (0, .ref (a 0)), (1, .long t)]) hx hb d_X_tick_34 hl (by decide) rfl (fun ls hl => ?_)
      have loop : ∀ (n : Nat) (k : Nat) (S : tS) (at2 : Nat → Nat) (M : mm_M) (H : Heap) (locs : List Loc) (ls : Array Slot), mm_S g s M H locs → k ≤ 200 → S = xTk t (v, fl, ct, F, kt) k → Xi g M a ad at2 fa kr kf S.2.2.2.2 c cf S.2.2.1 ch cd R fr fh S.2.2.2.1 fb S.2.1 fd fs S.1 t → (∀ u, 19 ≤ u → mm_same u M0 M) → 201 ≤ k + n → lv_has ls 5 [(0, .ref (a 0)), (3, .int (nI ct)), (4, .int (nI k))] → W pG l eV (rk 9 216 411 3633) s m args below meth cdx H locs (2 * k + (S.2.2.2.2 - kt)) (10 * k + (cs S.2.2.2.2 - cs kt)) Q (F0 m 36 ls []) := by
        intro n
        induction n with
        | zero => exact fun k S at2 M H locs ls _ hk1 hS hX hs hfu _ => absurd hfu (by omega)
        | succ n ih =>
          intro k S at2 M H locs ls hZ hk1 hS hX hs hfu hl
          have hox2 := hX.x
          have hok := xTk_ok (ck := t) hOk k
          rw [← hS] at hok
          refine lv_iload hx hb d_X_tick_36 (lv_at hl 2 rfl) ?_
          refine lv_sipush (v := 200) hx hb d_X_tick_38 (by decide) ?_
          refine lv_icmp_ge (tgt := 76) hx hb d_X_tick_41 (by decide) (fun c41 => ?_) (fun c41 => ?_)
          · have hk2 : k = 200 := by
              rcases Nat.lt_or_ge k 200 with z | z
              · exact absurd (show nI 200 ≤ nI k from c41) (nI_ge z (by decide))
              · omega
            subst hk2
            have hm1 : kt ≤ S.2.2.2.2 := hok.2
            have hm2 := hok.1.2.2.2
            have hc2 := cs_le hm2
            rw [cs_11] at hc2
            refine lv_aload_n hx hb d_X_tick_76 rfl (lv_at hl 0 rfl) ?_
            refine mm_get E hZ cl_X fl_X_26 (by decide) hox2 rfl d_X_tick_77 ?_
            refine mm_calli (mm_runV (As := []) (rest := []) E hZ hml hl.1 lk_X_103 me_AlarmL_size in_AlarmL_size (c_AlarmL_size l g hX.tl) hX.tl.1 cl_AlarmL.1 ⟨Nat.le_of_ble_eq_true rfl, Nat.le_of_ble_eq_true rfl⟩ rfl (Nat.le_of_ble_eq_true rfl) d_X_tick_80 ⟨by show 2 * 200 + (S.2.2.2.2 - kt) + 0 ≤ 411; omega, by show 10 * 200 + (cs S.2.2.2.2 - cs kt) + 0 ≤ 3633; omega⟩) hZ (fun r64 M1 H locs hp hZ => ?_)
            rw [hp.1] at hZ
            replace hp := hp.2
            subst hp
            refine lv_iload_n hx hb d_X_tick_83 rfl (lv_at hl 1 rfl) ?_
            refine lv_isub hx hb d_X_tick_84 ?_
            refine W.widen (k := 411) (n := 3633) (by show 2 * 200 + (S.2.2.2.2 - kt) + 0 ≤ 411; omega) (by show 10 * 200 + (cs S.2.2.2.2 - cs kt) + 0 ≤ 3633; omega) ?_
            exact mm_iret (v := (nI S.2.2.1) - (nI ct)) E hr hlk eQ hZ d_X_tick_85 ⟨_, rfl, Or.inr ⟨⟨Int64.not_lt.mp c6, c14⟩, by rw [hS], at2, by rw [← hS]; exact hX, hs⟩⟩
          · have hk2 : k < 200 := by
              rcases Nat.lt_or_ge k 200 with z | z
              · exact z
              · exact absurd (show nI 200 ≤ nI k from nI_le z (by omega)) c41
            have h1 := xLate_ok (ck := t) (i := k) hok.1
            have h2 := xLost_ok (ck := t) (i := k) h1.1
            have hm1 : kt ≤ S.2.2.2.2 := hok.2
            have hm2 := h1.2
            have hm3 := h2.2
            have hm4 := h2.1.2.2.2
            have hc1 := cs_le hm1
            have hc2 := cs_le hm2
            have hc3 := cs_le hm3
            have hc4 := cs_le hm4
            rw [cs_11] at hc4
            obtain ⟨⟨f, hia, hf⟩, hit, hinj⟩ := hX.it
            refine lv_aload_n hx hb d_X_tick_44 rfl (lv_at hl 0 rfl) ?_
            refine lv_iload hx hb d_X_tick_45 (lv_at hl 2 rfl) ?_
            refine lv_aload_n hx hb d_X_tick_47 rfl (lv_at hl 0 rfl) ?_
            refine mm_get E hZ cl_X fl_X_46 (by decide) hox2 rfl d_X_tick_48 ?_
            refine lv_iload hx hb d_X_tick_51 (lv_at hl 2 rfl) ?_
            refine mm_aald (t0 := 3) E hZ hia rfl rfl (show k < 200 from hk2) (by decide) d_X_tick_53 ?_
            rw [hf k hk2]
            show W pG l eV (rk 9 216 411 3633) s m args below meth cdx H locs (2 * k + (S.2.2.2.2 - kt)) (10 * k + (cs S.2.2.2.2 - cs kt)) Q (F0 m 54 ls [.ref (fa k), .int (nI k), .ref (a 0)])
            refine mm_callv (mm_runV (As := [.int (nI k), .ref (fa k)]) (rest := []) E hZ hml hl.1 lk_X_107 me_X_tellLate in_X_tellLate (c_X_tellLate l g hX hk2 (hok.1.1 k hk2) hok.1.2.1 hok.1.2.2.1 hok.1.2.2.2) hox2 cl_X.1 ⟨Nat.le_of_ble_eq_true rfl, Nat.le_of_ble_eq_true rfl⟩ rfl (Nat.le_of_ble_eq_true rfl) d_X_tick_54 ⟨by show 2 * k + (S.2.2.2.2 - kt) + (1 + ((xLate t k S).2.2.2.2 - S.2.2.2.2)) ≤ 411; omega, by show 10 * k + (cs S.2.2.2.2 - cs kt) + (5 + (cs (xLate t k S).2.2.2.2 - cs S.2.2.2.2)) ≤ 3633; omega⟩) hZ (fun Mx H locs hp hZ => ?_)
            obtain ⟨at3, hX1, hs1⟩ := hp
            have hX1 : Xi g Mx a ad at3 fa kr kf ((xLate t k S).2.2.2.2) c cf ((xLate t k S).2.2.1) ch cd R fr fh ((xLate t k S).2.2.2.1) fb ((xLate t k S).2.1) fd fs ((xLate t k S).1) t := hX1
            obtain ⟨⟨f2, hia2, hf2⟩, _, _⟩ := hX1.it
            have hox4 := hX1.x
            refine lv_aload_n hx hb d_X_tick_57 rfl (lv_at hl 0 rfl) ?_
            refine lv_iload hx hb d_X_tick_58 (lv_at hl 2 rfl) ?_
            refine lv_aload_n hx hb d_X_tick_60 rfl (lv_at hl 0 rfl) ?_
            refine mm_get E hZ cl_X fl_X_46 (by decide) hox4 rfl d_X_tick_61 ?_
            refine lv_iload hx hb d_X_tick_64 (lv_at hl 2 rfl) ?_
            refine mm_aald (t0 := 3) E hZ hia2 rfl rfl (show k < 200 from hk2) (by decide) d_X_tick_66 ?_
            rw [hf2 k hk2]
            show W pG l eV (rk 9 216 411 3633) s m args below meth cdx H locs (2 * k + (S.2.2.2.2 - kt) + (1 + ((xLate t k S).2.2.2.2 - S.2.2.2.2))) (10 * k + (cs S.2.2.2.2 - cs kt) + (5 + (cs (xLate t k S).2.2.2.2 - cs S.2.2.2.2))) Q (F0 m 67 ls [.ref (fa k), .int (nI k), .ref (a 0)])
            refine mm_callv (mm_runV (As := [.int (nI k), .ref (fa k)]) (rest := []) E hZ hml hl.1 lk_X_111 me_X_tellLost in_X_tellLost (c_X_tellLost l g hX1 hk2 (h1.1.1 k hk2) h1.1.2.1 h1.1.2.2.1 h1.1.2.2.2) hox4 cl_X.1 ⟨Nat.le_of_ble_eq_true rfl, Nat.le_of_ble_eq_true rfl⟩ rfl (Nat.le_of_ble_eq_true rfl) d_X_tick_67 ⟨by show 2 * k + (S.2.2.2.2 - kt) + (1 + ((xLate t k S).2.2.2.2 - S.2.2.2.2)) + (1 + ((xLost t k (xLate t k S)).2.2.2.2 - (xLate t k S).2.2.2.2)) ≤ 411; omega, by show 10 * k + (cs S.2.2.2.2 - cs kt) + (5 + (cs (xLate t k S).2.2.2.2 - cs S.2.2.2.2)) + (5 + (cs (xLost t k (xLate t k S)).2.2.2.2 - cs (xLate t k S).2.2.2.2)) ≤ 3633; omega⟩) hZ (fun My H locs hp hZ => ?_)
            obtain ⟨at4, hX2, hs2⟩ := hp
            have hX2 : Xi g My a ad at4 fa kr kf ((xLost t k (xLate t k S)).2.2.2.2) c cf ((xLost t k (xLate t k S)).2.2.1) ch cd R fr fh ((xLost t k (xLate t k S)).2.2.2.1) fb ((xLost t k (xLate t k S)).2.1) fd fs ((xLost t k (xLate t k S)).1) t := hX2
            refine lv_iinc (v := (nI k) + 1) (lv' := [(4, .int ((nI k) + 1)), (0, .ref (a 0)), (3, .int (nI ct))]) hx hb d_X_tick_70 hl (k := 2) rfl rfl (by decide) rfl (fun ls hl => ?_)
            refine lv_goto (tgt := 36) hx hb d_X_tick_73 (by decide) ?_
            rw [nI_1] at hl
            refine W.widen (k := 2 * (k + 1) + ((xLost t k (xLate t k S)).2.2.2.2 - kt)) (n := 10 * (k + 1) + (cs (xLost t k (xLate t k S)).2.2.2.2 - cs kt)) (by show 2 * k + (S.2.2.2.2 - kt) + (1 + ((xLate t k S).2.2.2.2 - S.2.2.2.2)) + (1 + ((xLost t k (xLate t k S)).2.2.2.2 - (xLate t k S).2.2.2.2)) ≤ _; omega) (by show 10 * k + (cs S.2.2.2.2 - cs kt) + (5 + (cs (xLate t k S).2.2.2.2 - cs S.2.2.2.2)) + (5 + (cs (xLost t k (xLate t k S)).2.2.2.2 - cs (xLate t k S).2.2.2.2)) ≤ _; omega) ?_
            exact ih (k + 1) (xLost t k (xLate t k S)) at4 My H locs ls hZ (by omega) (by rw [hS]; rfl) hX2 (fun u hu => ((hs u hu).tr (hs1 u hu)).tr (hs2 u hu)) (by omega) (lv_sub hl [1, 2, 0] rfl)
      refine W.widen (k := 2 * 0 + (kt - kt)) (n := 10 * 0 + (cs kt - cs kt)) (by show 0 + 0 ≤ _; omega) (by show 0 + 0 ≤ _; omega) ?_
      exact loop 201 0 (v, fl, ct, F, kt) at0 M61 H locs ls hZ (Nat.zero_le _) rfl hX0 hs0 (by omega) (lv_sub hl [2, 1, 0] rfl)
    · have c14 := mt (lg_cmp_le _ _).mpr c14
      refine lv_bipush (v := (-102)) hx hb d_X_tick_17 (by decide) ?_
      refine W.widen (k := 411) (n := 3633) (Nat.zero_le _) (Nat.zero_le _) ?_
      exact mm_iret (v := (-102)) E hr hlk eQ hZ d_X_tick_19 ⟨_, rfl, Or.inl ⟨fun z => absurd z.2 c14, rfl, rfl⟩⟩
