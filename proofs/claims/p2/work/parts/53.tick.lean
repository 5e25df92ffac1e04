/-! THE CLASS: tellLate, tellLost, tick. The state that a tick moves: items, late counts, alarms told, their parts, the level of their list -/
abbrev tS : Type := (Nat → itS) × (Nat → Int32) × Nat × (Nat → Nat → Int32) × Nat
abbrev itLa (w : itS) : itS := (w.1, w.2.1, w.2.2.1, w.2.2.2.1, w.2.2.2.2.1, w.2.2.2.2.2.1, 1, w.2.2.2.2.2.2.2)
abbrev itLo (w : itS) : itS := (w.1, w.2.1, w.2.2.1, w.2.2.2.1, w.2.2.2.2.1, w.2.2.2.2.2.1, w.2.2.2.2.2.2.1, 1)
def tld (ct : Nat) (F : Nat → Nat → Int32) (kt i : Nat) (k : Int32) (w : itS) : Nat × (Nat → Nat → Int32) × Nat := if ct < 400 then (ct + 1, va_up F ct (alv (nI i) k w.2.2.2.1 w.2.2.2.2.1 w.2.2.2.2.2.1.toInt32), lvl ct kt) else (ct, F, kt)
abbrev isLa (w : itS) (ck : Int64) : Prop := ¬ w.2.2.2.1 = 0 ∧ w.2.2.2.2.2.2.1 = 0 ∧ w.2.2.2.2.2.1 < ck
abbrev isLo (w : itS) (ck : Int64) : Prop := ¬ w.2.2.2.1 = 0 ∧ w.2.2.2.2.2.2.2 = 0 ∧ 864000 < ck - w.2.2.2.2.2.1
def xLate (ck : Int64) (i : Nat) (s : tS) : tS := if isLa (s.1 i) ck then (va_up s.1 i (itLa (s.1 i)), va_up s.2.1 (s.1 i).2.2.2.2.1.toNatClampNeg (s.2.1 (s.1 i).2.2.2.2.1.toNatClampNeg + 1), tld s.2.2.1 s.2.2.2.1 s.2.2.2.2 i 1 (s.1 i)) else s
def xLost (ck : Int64) (i : Nat) (s : tS) : tS := if isLo (s.1 i) ck then (va_up s.1 i (itLo (s.1 i)), s.2.1, tld s.2.2.1 s.2.2.2.1 s.2.2.2.2 i 2 (s.1 i)) else s
def xTk (ck : Int64) (s : tS) : Nat → tS
  | 0 => s
  | i + 1 => xLost ck i (xLate ck i (xTk ck s i))
/-- what stays within bounds -/
def tOk (s : tS) : Prop := (∀ j, j < 200 → ∃ p, p < 50 ∧ (s.1 j).2.2.2.2.1 = nI p) ∧ s.2.2.1 ≤ 400 ∧ s.2.2.1 ≤ cp s.2.2.2.2 ∧ s.2.2.2.2 ≤ 11
theorem tld_ok {ct kt i : Nat} {F : Nat → Nat → Int32} {k : Int32} {w : itS} (h1 : ct ≤ 400) (h2 : ct ≤ cp kt) (h3 : kt ≤ 11) : (tld ct F kt i k w).1 ≤ 400 ∧ (tld ct F kt i k w).1 ≤ cp (tld ct F kt i k w).2.2 ∧ (tld ct F kt i k w).2.2 ≤ 11 ∧ kt ≤ (tld ct F kt i k w).2.2 := by
  unfold tld
  by_cases z : ct < 400
  · rw [if_pos z]
    have h := lvl_M ct kt h2
    refine ⟨by show ct + 1 ≤ 400; omega, ?_, lvl_le (n := 400) h3 z (by rw [cp_11]; decide), h.2.2.2.1⟩
    show ct + 1 ≤ cp (lvl ct kt)
    unfold lvl
    by_cases y : ct < cp kt
    · rw [if_pos y]; omega
    · rw [if_neg y]; have := cp_mono kt; omega
  · rw [if_neg z]; exact ⟨h1, h2, h3, Nat.le_refl _⟩
theorem xLate_ok {ck : Int64} {i : Nat} {s : tS} (h : tOk s) : tOk (xLate ck i s) ∧ s.2.2.2.2 ≤ (xLate ck i s).2.2.2.2 := by
  unfold xLate
  by_cases z : isLa (s.1 i) ck
  · rw [if_pos z]
    have k := tld_ok (i := i) (F := s.2.2.2.1) (k := 1) (w := s.1 i) h.2.1 h.2.2.1 h.2.2.2
    refine ⟨⟨fun j hj => ?_, k.1, k.2.1, k.2.2.1⟩, k.2.2.2⟩
    show ∃ p, p < 50 ∧ (va_up s.1 i (itLa (s.1 i)) j).2.2.2.2.1 = nI p
    by_cases y : j = i
    · subst y; rw [va_up_self]; exact h.1 j hj
    · rw [va_up_ne _ _ y]; exact h.1 j hj
  · rw [if_neg z]; exact ⟨h, Nat.le_refl _⟩
theorem xLost_ok {ck : Int64} {i : Nat} {s : tS} (h : tOk s) : tOk (xLost ck i s) ∧ s.2.2.2.2 ≤ (xLost ck i s).2.2.2.2 := by
  unfold xLost
  by_cases z : isLo (s.1 i) ck
  · rw [if_pos z]
    have k := tld_ok (i := i) (F := s.2.2.2.1) (k := 2) (w := s.1 i) h.2.1 h.2.2.1 h.2.2.2
    refine ⟨⟨fun j hj => ?_, k.1, k.2.1, k.2.2.1⟩, k.2.2.2⟩
    show ∃ p, p < 50 ∧ (va_up s.1 i (itLo (s.1 i)) j).2.2.2.2.1 = nI p
    by_cases y : j = i
    · subst y; rw [va_up_self]; exact h.1 j hj
    · rw [va_up_ne _ _ y]; exact h.1 j hj
  · rw [if_neg z]; exact ⟨h, Nat.le_refl _⟩
theorem xTk_ok {ck : Int64} {s : tS} (h : tOk s) : ∀ i, tOk (xTk ck s i) ∧ s.2.2.2.2 ≤ (xTk ck s i).2.2.2.2
  | 0 => ⟨h, Nat.le_refl _⟩
  | i + 1 => by
    have h1 := xTk_ok h i
    have h2 := xLate_ok (ck := ck) (i := i) h1.1
    have h3 := xLost_ok (ck := ck) (i := i) h2.1
    exact ⟨h3.1, Nat.le_trans h1.2 (Nat.le_trans h2.2 h3.2)⟩
/-- what an alarm needs at most: the list's growth as levels -/
theorem al_lv {ct kt : Nat} (h1 : ct ≤ 400) (h2 : ct ≤ cp kt) (h3 : kt ≤ 11) {F : Nat → Nat → Int32} {i : Nat} {k : Int32} {w : itS} : alC ct (cp kt) = (tld ct F kt i k w).2.2 - kt ∧ alS ct (cp kt) = cs (tld ct F kt i k w).2.2 - cs kt ∧ (ct < 400 → (tld ct F kt i k w).2.2 = lvl ct kt ∧ alM ct (cp kt) = cp (lvl ct kt)) := by
  have h := lvl_M ct kt h2
  unfold tld
  by_cases z : ct < 400
  · rw [if_pos z]; exact ⟨h.2.1, h.2.2.1, fun _ => ⟨rfl, h.1⟩⟩
  · rw [if_neg z]
    have h4 : ct < cp kt := by
      have h5 : ¬ kt ≤ 10 := fun y => by have := cp_le y; rw [show cp 10 = 366 by decide] at this; omega
      rw [show kt = 11 by omega, cp_11]; omega
    unfold alC alS
    rw [if_pos h4, if_pos h4]
    exact ⟨(Nat.sub_self _).symm, (Nat.sub_self _).symm, fun y => absurd y z⟩
set_option maxHeartbeats 4000000 in
set_option maxRecDepth 100000 in
theorem c_X_tellLate (l : Launch) (g : mm_G) {M0 : mm_M} {a : Nat → Nat} {ad at0 fa : Nat → Nat} {kr kf kt c cf ct ch cd : Nat} {R : Nat → rowS} {fr : Nat → Nat} {fh : Nat → Int64} {F : Nat → Nat → Int32} {fb fl fd fs : Nat → Int32} {v : Nat → itS} {ck : Int64} (h : Xi g M0 a ad at0 fa kr kf kt c cf ct ch cd R fr fh F fb fl fd fs v ck) {j : Nat} (hj : j < 200) (hpl : ∃ p, p < 50 ∧ (v j).2.2.2.2.1 = nI p) (hct : ct ≤ 400) (hcp : ct ≤ cp kt) (hk11 : kt ≤ 11) : Cv l g y_X_tellLate b_X_tellLate 3 (rk 8 194 (1 + ((xLate ck j (v, fl, ct, F, kt)).2.2.2.2 - kt)) (5 + (cs (xLate ck j (v, fl, ct, F, kt)).2.2.2.2 - cs kt))) M0 [.ref (a 0), .int (nI j), .ref (fa j)] (fun M' => ∃ at2, Xi g M' a ad at2 fa kr kf ((xLate ck j (v, fl, ct, F, kt)).2.2.2.2) c cf ((xLate ck j (v, fl, ct, F, kt)).2.2.1) ch cd R fr fh ((xLate ck j (v, fl, ct, F, kt)).2.2.2.1) fb ((xLate ck j (v, fl, ct, F, kt)).2.1) fd fs ((xLate ck j (v, fl, ct, F, kt)).1) ck ∧ ∀ u, 19 ≤ u → mm_same u M0 M') := by
  refine mm_enter (by decide) (Nat.le_of_ble_eq_true rfl) (fun pG eV s m args below meth cdx ls Q E hml hr hlk hnm hZ hl eQ => ?_)
  have hx := E.1
  have hb := E.2.1
  have hl : lv_has ls 3 [(0, .ref (a 0)), (1, .int (nI j)), (2, .ref (fa j))] := hl
  have hox := h.x
  have hej := h.item hj
  refine lv_aload_n hx hb d_X_tellLate_0 rfl (lv_at hl 2 rfl) ?_
  refine mm_calli (mm_runV (As := []) (rest := []) E hZ hml hl.1 lk_X_199 me_Item_isExpected in_Item_isExpected (c_Item_isExpected l g hej) hej cl_Item.1 ⟨Nat.le_of_ble_eq_true rfl, Nat.le_of_ble_eq_true rfl⟩ rfl (Nat.le_of_ble_eq_true rfl) d_X_tellLate_1 ⟨by show 0 + 0 ≤ 1 + ((xLate ck j (v, fl, ct, F, kt)).2.2.2.2 - kt); omega, by show 0 + 0 ≤ 5 + (cs (xLate ck j (v, fl, ct, F, kt)).2.2.2.2 - cs kt); omega⟩) hZ (fun r1 M1 H locs hp hZ => ?_)
  rw [hp.1] at hZ
  replace hp := hp.2
  refine lv_if_eq (tgt := 52) hx hb d_X_tellLate_4 (by decide) (fun c4 => ?_) (fun c4 => ?_)
  · have hS : (xLate ck j (v, fl, ct, F, kt)) = (v, fl, ct, F, kt) := if_neg (fun z => b32_eq0.mp (hp ▸ c4) z.1)
    refine W.widen (k := 1 + ((xLate ck j (v, fl, ct, F, kt)).2.2.2.2 - kt)) (n := 5 + (cs (xLate ck j (v, fl, ct, F, kt)).2.2.2.2 - cs kt)) (by show 0 + 0 ≤ 1 + ((xLate ck j (v, fl, ct, F, kt)).2.2.2.2 - kt); omega) (by show 0 + 0 ≤ 5 + (cs (xLate ck j (v, fl, ct, F, kt)).2.2.2.2 - cs kt); omega) ?_
    exact mm_vret E hr hlk eQ hZ d_X_tellLate_52 ⟨rfl, at0, by rw [hS]; exact h, fun u _ => mm_same.rf⟩
  · refine lv_aload_n hx hb d_X_tellLate_7 rfl (lv_at hl 2 rfl) ?_
    refine mm_get E hZ cl_Item fl_X_203 (by decide) hej rfl d_X_tellLate_8 ?_
    refine lv_if_ne (tgt := 52) hx hb d_X_tellLate_11 (by decide) (fun c11 => ?_) (fun c11 => ?_)
    · have hS : (xLate ck j (v, fl, ct, F, kt)) = (v, fl, ct, F, kt) := if_neg (fun z => c11 z.2.1)
      refine W.widen (k := 1 + ((xLate ck j (v, fl, ct, F, kt)).2.2.2.2 - kt)) (n := 5 + (cs (xLate ck j (v, fl, ct, F, kt)).2.2.2.2 - cs kt)) (by show 0 + 0 ≤ 1 + ((xLate ck j (v, fl, ct, F, kt)).2.2.2.2 - kt); omega) (by show 0 + 0 ≤ 5 + (cs (xLate ck j (v, fl, ct, F, kt)).2.2.2.2 - cs kt); omega) ?_
      exact mm_vret E hr hlk eQ hZ d_X_tellLate_52 ⟨rfl, at0, by rw [hS]; exact h, fun u _ => mm_same.rf⟩
    · refine lv_aload_n hx hb d_X_tellLate_14 rfl (lv_at hl 2 rfl) ?_
      refine mm_get E hZ cl_Item fl_X_206 (by decide) hej rfl d_X_tellLate_15 ?_
      refine lv_aload_n hx hb d_X_tellLate_18 rfl (lv_at hl 0 rfl) ?_
      refine mm_get E hZ cl_X fl_X_50 (by decide) hox rfl d_X_tellLate_19 ?_
      refine W.lcmp hx hb d_X_tellLate_22 ?_
      refine lv_if_ge (tgt := 52) hx hb d_X_tellLate_23 (by decide) (fun c23 => ?_) (fun c23 => ?_)
      · have c23 := (lg_cmp_ge _ _).mp c23
        have hS : (xLate ck j (v, fl, ct, F, kt)) = (v, fl, ct, F, kt) := if_neg (fun z => absurd z.2.2 (Int64.not_lt.mpr c23))
        refine W.widen (k := 1 + ((xLate ck j (v, fl, ct, F, kt)).2.2.2.2 - kt)) (n := 5 + (cs (xLate ck j (v, fl, ct, F, kt)).2.2.2.2 - cs kt)) (by show 0 + 0 ≤ 1 + ((xLate ck j (v, fl, ct, F, kt)).2.2.2.2 - kt); omega) (by show 0 + 0 ≤ 5 + (cs (xLate ck j (v, fl, ct, F, kt)).2.2.2.2 - cs kt); omega) ?_
        exact mm_vret E hr hlk eQ hZ d_X_tellLate_52 ⟨rfl, at0, by rw [hS]; exact h, fun u _ => mm_same.rf⟩
      · have c23 := mt (lg_cmp_ge _ _).mpr c23
        have hc : isLa (v j) ck := ⟨b32_ne0 (hp ▸ c4), c11, Int64.not_le.mp c23⟩
        clear hp
        have hS : (xLate ck j (v, fl, ct, F, kt)) = (va_up v j (itLa (v j)), va_up fl (v j).2.2.2.2.1.toNatClampNeg (fl (v j).2.2.2.2.1.toNatClampNeg + 1), tld ct F kt j 1 (v j)) := if_pos hc
        have hal := al_lv hct hcp hk11 (F := F) (i := j) (k := 1) (w := v j)
        obtain ⟨p, hp5, epl⟩ := hpl
        skip
        refine lv_aload_n hx hb d_X_tellLate_26 rfl (lv_at hl 2 rfl) ?_
        refine lv_iconst (v := 1) hx hb d_X_tellLate_27 (by decide) ?_
        refine mm_put E hZ cl_Item fl_X_203 (by decide) rfl hej (by decide) rfl rfl (Nat.le_of_ble_eq_true rfl) d_X_tellLate_28 (fun H locs hZ => ?_)
        obtain ⟨M2, eM2⟩ : ∃ zz : mm_M, zz = mm_up M0 (fa j) (ob 7 5 [.int ((v j).1), .long ((v j).2.1), .long ((v j).2.2.1), .int ((v j).2.2.2.1), .int ((v j).2.2.2.2.1), .long ((v j).2.2.2.2.2.1), .int 1, .int ((v j).2.2.2.2.2.2.2)]) := ⟨_, rfl⟩
        have hZ : mm_S g s M2 H locs := by rw [eM2]; exact hZ
        have h3 := (congrFun eM2 (a 0)).trans ((mm_ne _ _ (mm_tag hox hej (by decide))).trans hox)
        have h4 := (congrFun eM2 (fa j)).trans (mm_self _ _ _)
        refine lv_aload_n hx hb d_X_tellLate_31 rfl (lv_at hl 0 rfl) ?_
        refine mm_get E hZ cl_X fl_X_33 (by decide) h3 rfl d_X_tellLate_32 ?_
        refine lv_aload_n hx hb d_X_tellLate_35 rfl (lv_at hl 2 rfl) ?_
        refine mm_get E hZ cl_Item fl_X_209 (by decide) h4 rfl d_X_tellLate_36 ?_
        have hX2 : Xi g M2 a ad at0 fa kr kf kt c cf ct ch cd R fr fh F fb fl fd fs (va_up v j (itLa (v j))) ck := by rw [eM2]; exact h.upI hj (itLa (v j))
        have hs1 : ∀ u, u ≠ 7 → mm_same u M0 M2 := fun u hu => by rw [eM2]; exact mm_same.up hej hu _
        have hej2 := hX2.item hj
        rw [va_up_self] at hej2
        rw [epl]
        refine mm_callv (mm_runV (As := [.int (nI p)]) (rest := []) E hZ hml hl.1 lk_X_212 me_Cnts_addLate in_Cnts_addLate (c_Cnts_addLate l g hX2.cn hp5) hX2.cn.1 cl_Cnts.1 ⟨Nat.le_of_ble_eq_true rfl, Nat.le_of_ble_eq_true rfl⟩ rfl (Nat.le_of_ble_eq_true rfl) d_X_tellLate_39 ⟨by show 0 + 0 + 0 ≤ 1 + ((xLate ck j (v, fl, ct, F, kt)).2.2.2.2 - kt); omega, by show 0 + 0 + 0 ≤ 5 + (cs (xLate ck j (v, fl, ct, F, kt)).2.2.2.2 - cs kt); omega⟩) hZ (fun My H locs hp hZ => ?_)
        have hX3 := hX2.upL hp.1 hp.2
        have hs2 := hp.2
        have hej3 := hX3.item hj
        rw [va_up_self] at hej3
        have hox3 := hX3.x
        have hq : (v j).2.2.2.2.1.toNatClampNeg = p := by rw [epl]; exact nI_clamp (by omega)
        rw [hq] at hS
        clear hp
        refine lv_aload_n hx hb d_X_tellLate_42 rfl (lv_at hl 0 rfl) ?_
        refine mm_get E hZ cl_X fl_X_26 (by decide) hox3 rfl d_X_tellLate_43 ?_
        refine lv_iload_n hx hb d_X_tellLate_46 rfl (lv_at hl 1 rfl) ?_
        refine lv_iconst (v := 1) hx hb d_X_tellLate_47 (by decide) ?_
        refine lv_aload_n hx hb d_X_tellLate_48 rfl (lv_at hl 2 rfl) ?_
        rw [hS]
        refine mm_callv (mm_runV (As := [.int (nI j), .int 1, .ref (fa j)]) (rest := []) E hZ hml hl.1 lk_X_215 me_AlarmL_addAlarm in_AlarmL_addAlarm (c_AlarmL_addAlarm l g hX3.tl (cp_19 hk11) (nI j) 1 hej3) hX3.tl.1 cl_AlarmL.1 ⟨Nat.le_of_ble_eq_true rfl, Nat.le_of_ble_eq_true rfl⟩ rfl (Nat.le_of_ble_eq_true rfl) d_X_tellLate_49 ⟨by show 0 + 0 + 0 + (1 + alC ct (cp kt)) ≤ 1 + ((tld ct F kt j 1 (v j)).2.2 - kt); omega, by show 0 + 0 + 0 + (5 + alS ct (cp kt)) ≤ 5 + (cs (tld ct F kt j 1 (v j)).2.2 - cs kt); omega⟩) hZ (fun Mz H locs hp hZ => ?_)
        have hX4 : ∃ at2, Xi g Mz a ad at2 fa kr kf ((tld ct F kt j 1 (v j)).2.2) c cf ((tld ct F kt j 1 (v j)).1) ch cd R fr fh ((tld ct F kt j 1 (v j)).2.1) fb (va_up fl p (fl p + 1)) fd fs (va_up v j (itLa (v j))) ck ∧ ∀ u, u ≠ 11 → mm_same u My Mz := by
          rcases hp with ⟨h4, eM⟩ | ⟨h4, q, hT, hs⟩
          · have ht : tld ct F kt j 1 (v j) = (ct, F, kt) := if_neg (by omega)
            rw [ht, eM]; exact ⟨at0, hX3, fun u _ => mm_same.rf⟩
          · have ht : tld ct F kt j 1 (v j) = (ct + 1, va_up F ct (alv (nI j) 1 (v j).2.2.2.1 (v j).2.2.2.2.1 (v j).2.2.2.2.2.1.toInt32), lvl ct kt) := if_pos h4
            rw [(hal.2.2 h4).2] at hT
            rw [ht]; exact ⟨_, hX3.upT hT hs, hs⟩
        obtain ⟨at2, hX4, hs4⟩ := hX4
        refine W.widen (k := 1 + ((tld ct F kt j 1 (v j)).2.2 - kt)) (n := 5 + (cs (tld ct F kt j 1 (v j)).2.2 - cs kt)) (by show 0 + 0 + 0 + (1 + alC ct (cp kt)) ≤ _; omega) (by show 0 + 0 + 0 + (5 + alS ct (cp kt)) ≤ _; omega) ?_
        rw [hS] at eQ
        exact mm_vret E hr hlk eQ hZ d_X_tellLate_52 ⟨rfl, at2, hX4, fun u hu => ((hs1 u (by omega)).tr (hs2 u (by omega))).tr (hs4 u (by omega))⟩
set_option maxHeartbeats 4000000 in
set_option maxRecDepth 100000 in
theorem c_X_tellLost (l : Launch) (g : mm_G) {M0 : mm_M} {a : Nat → Nat} {ad at0 fa : Nat → Nat} {kr kf kt c cf ct ch cd : Nat} {R : Nat → rowS} {fr : Nat → Nat} {fh : Nat → Int64} {F : Nat → Nat → Int32} {fb fl fd fs : Nat → Int32} {v : Nat → itS} {ck : Int64} (h : Xi g M0 a ad at0 fa kr kf kt c cf ct ch cd R fr fh F fb fl fd fs v ck) {j : Nat} (hj : j < 200) (hpl : ∃ p, p < 50 ∧ (v j).2.2.2.2.1 = nI p) (hct : ct ≤ 400) (hcp : ct ≤ cp kt) (hk11 : kt ≤ 11) : Cv l g y_X_tellLost b_X_tellLost 3 (rk 8 194 (1 + ((xLost ck j (v, fl, ct, F, kt)).2.2.2.2 - kt)) (5 + (cs (xLost ck j (v, fl, ct, F, kt)).2.2.2.2 - cs kt))) M0 [.ref (a 0), .int (nI j), .ref (fa j)] (fun M' => ∃ at2, Xi g M' a ad at2 fa kr kf ((xLost ck j (v, fl, ct, F, kt)).2.2.2.2) c cf ((xLost ck j (v, fl, ct, F, kt)).2.2.1) ch cd R fr fh ((xLost ck j (v, fl, ct, F, kt)).2.2.2.1) fb ((xLost ck j (v, fl, ct, F, kt)).2.1) fd fs ((xLost ck j (v, fl, ct, F, kt)).1) ck ∧ ∀ u, 19 ≤ u → mm_same u M0 M') := by
  refine mm_enter (by decide) (Nat.le_of_ble_eq_true rfl) (fun pG eV s m args below meth cdx ls Q E hml hr hlk hnm hZ hl eQ => ?_)
  have hx := E.1
  have hb := E.2.1
  have hl : lv_has ls 3 [(0, .ref (a 0)), (1, .int (nI j)), (2, .ref (fa j))] := hl
  have hox := h.x
  have hej := h.item hj
  refine lv_aload_n hx hb d_X_tellLost_0 rfl (lv_at hl 2 rfl) ?_
  refine mm_calli (mm_runV (As := []) (rest := []) E hZ hml hl.1 lk_X_199 me_Item_isExpected in_Item_isExpected (c_Item_isExpected l g hej) hej cl_Item.1 ⟨Nat.le_of_ble_eq_true rfl, Nat.le_of_ble_eq_true rfl⟩ rfl (Nat.le_of_ble_eq_true rfl) d_X_tellLost_1 ⟨by show 0 + 0 ≤ 1 + ((xLost ck j (v, fl, ct, F, kt)).2.2.2.2 - kt); omega, by show 0 + 0 ≤ 5 + (cs (xLost ck j (v, fl, ct, F, kt)).2.2.2.2 - cs kt); omega⟩) hZ (fun r1 M1 H locs hp hZ => ?_)
  rw [hp.1] at hZ
  replace hp := hp.2
  refine lv_if_eq (tgt := 45) hx hb d_X_tellLost_4 (by decide) (fun c4 => ?_) (fun c4 => ?_)
  · have hS : (xLost ck j (v, fl, ct, F, kt)) = (v, fl, ct, F, kt) := if_neg (fun z => b32_eq0.mp (hp ▸ c4) z.1)
    refine W.widen (k := 1 + ((xLost ck j (v, fl, ct, F, kt)).2.2.2.2 - kt)) (n := 5 + (cs (xLost ck j (v, fl, ct, F, kt)).2.2.2.2 - cs kt)) (by show 0 + 0 ≤ 1 + ((xLost ck j (v, fl, ct, F, kt)).2.2.2.2 - kt); omega) (by show 0 + 0 ≤ 5 + (cs (xLost ck j (v, fl, ct, F, kt)).2.2.2.2 - cs kt); omega) ?_
    exact mm_vret E hr hlk eQ hZ d_X_tellLost_45 ⟨rfl, at0, by rw [hS]; exact h, fun u _ => mm_same.rf⟩
  · refine lv_aload_n hx hb d_X_tellLost_7 rfl (lv_at hl 2 rfl) ?_
    refine mm_get E hZ cl_Item fl_X_158 (by decide) hej rfl d_X_tellLost_8 ?_
    refine lv_if_ne (tgt := 45) hx hb d_X_tellLost_11 (by decide) (fun c11 => ?_) (fun c11 => ?_)
    · have hS : (xLost ck j (v, fl, ct, F, kt)) = (v, fl, ct, F, kt) := if_neg (fun z => c11 z.2.1)
      refine W.widen (k := 1 + ((xLost ck j (v, fl, ct, F, kt)).2.2.2.2 - kt)) (n := 5 + (cs (xLost ck j (v, fl, ct, F, kt)).2.2.2.2 - cs kt)) (by show 0 + 0 ≤ 1 + ((xLost ck j (v, fl, ct, F, kt)).2.2.2.2 - kt); omega) (by show 0 + 0 ≤ 5 + (cs (xLost ck j (v, fl, ct, F, kt)).2.2.2.2 - cs kt); omega) ?_
      exact mm_vret E hr hlk eQ hZ d_X_tellLost_45 ⟨rfl, at0, by rw [hS]; exact h, fun u _ => mm_same.rf⟩
    · refine lv_aload_n hx hb d_X_tellLost_14 rfl (lv_at hl 0 rfl) ?_
      refine mm_get E hZ cl_X fl_X_50 (by decide) hox rfl d_X_tellLost_15 ?_
      refine lv_aload_n hx hb d_X_tellLost_18 rfl (lv_at hl 2 rfl) ?_
      refine mm_get E hZ cl_Item fl_X_206 (by decide) hej rfl d_X_tellLost_19 ?_
      refine lv_lsub hx hb d_X_tellLost_22 ?_
      refine lv_ldc2 (v := 864000) hx hb E.2.2.1 (E.2.2.2.1 _ w_442) d_X_tellLost_23 ?_
      refine W.lcmp hx hb d_X_tellLost_26 ?_
      refine lv_if_le (tgt := 45) hx hb d_X_tellLost_27 (by decide) (fun c27 => ?_) (fun c27 => ?_)
      · have c27 := (lg_cmp_le _ _).mp c27
        have hS : (xLost ck j (v, fl, ct, F, kt)) = (v, fl, ct, F, kt) := if_neg (fun z => absurd z.2.2 (Int64.not_lt.mpr c27))
        refine W.widen (k := 1 + ((xLost ck j (v, fl, ct, F, kt)).2.2.2.2 - kt)) (n := 5 + (cs (xLost ck j (v, fl, ct, F, kt)).2.2.2.2 - cs kt)) (by show 0 + 0 ≤ 1 + ((xLost ck j (v, fl, ct, F, kt)).2.2.2.2 - kt); omega) (by show 0 + 0 ≤ 5 + (cs (xLost ck j (v, fl, ct, F, kt)).2.2.2.2 - cs kt); omega) ?_
        exact mm_vret E hr hlk eQ hZ d_X_tellLost_45 ⟨rfl, at0, by rw [hS]; exact h, fun u _ => mm_same.rf⟩
      · have c27 := mt (lg_cmp_le _ _).mpr c27
        have hc : isLo (v j) ck := ⟨b32_ne0 (hp ▸ c4), c11, Int64.not_le.mp c27⟩
        clear hp
        have hS : (xLost ck j (v, fl, ct, F, kt)) = (va_up v j (itLo (v j)), fl, tld ct F kt j 2 (v j)) := if_pos hc
        have hal := al_lv hct hcp hk11 (F := F) (i := j) (k := 2) (w := v j)
        obtain ⟨p, hp5, epl⟩ := hpl
        skip
        refine lv_aload_n hx hb d_X_tellLost_30 rfl (lv_at hl 2 rfl) ?_
        refine lv_iconst (v := 1) hx hb d_X_tellLost_31 (by decide) ?_
        refine mm_put E hZ cl_Item fl_X_158 (by decide) rfl hej (by decide) rfl rfl (Nat.le_of_ble_eq_true rfl) d_X_tellLost_32 (fun H locs hZ => ?_)
        obtain ⟨M2, eM2⟩ : ∃ zz : mm_M, zz = mm_up M0 (fa j) (ob 7 5 [.int ((v j).1), .long ((v j).2.1), .long ((v j).2.2.1), .int ((v j).2.2.2.1), .int ((v j).2.2.2.2.1), .long ((v j).2.2.2.2.2.1), .int ((v j).2.2.2.2.2.2.1), .int 1]) := ⟨_, rfl⟩
        have hZ : mm_S g s M2 H locs := by rw [eM2]; exact hZ
        have h3 := (congrFun eM2 (a 0)).trans ((mm_ne _ _ (mm_tag hox hej (by decide))).trans hox)
        have h4 := (congrFun eM2 (fa j)).trans (mm_self _ _ _)
        refine lv_aload_n hx hb d_X_tellLost_35 rfl (lv_at hl 0 rfl) ?_
        refine mm_get E hZ cl_X fl_X_26 (by decide) h3 rfl d_X_tellLost_36 ?_
        refine lv_iload_n hx hb d_X_tellLost_39 rfl (lv_at hl 1 rfl) ?_
        refine lv_iconst (v := 2) hx hb d_X_tellLost_40 (by decide) ?_
        refine lv_aload_n hx hb d_X_tellLost_41 rfl (lv_at hl 2 rfl) ?_
        have hX2 : Xi g M2 a ad at0 fa kr kf kt c cf ct ch cd R fr fh F fb fl fd fs (va_up v j (itLo (v j))) ck := by rw [eM2]; exact h.upI hj (itLo (v j))
        have hs1 : ∀ u, u ≠ 7 → mm_same u M0 M2 := fun u hu => by rw [eM2]; exact mm_same.up hej hu _
        have hej2 := hX2.item hj
        rw [va_up_self] at hej2
        rw [hS]
        refine mm_callv (mm_runV (As := [.int (nI j), .int 2, .ref (fa j)]) (rest := []) E hZ hml hl.1 lk_X_215 me_AlarmL_addAlarm in_AlarmL_addAlarm (c_AlarmL_addAlarm l g hX2.tl (cp_19 hk11) (nI j) 2 hej2) hX2.tl.1 cl_AlarmL.1 ⟨Nat.le_of_ble_eq_true rfl, Nat.le_of_ble_eq_true rfl⟩ rfl (Nat.le_of_ble_eq_true rfl) d_X_tellLost_42 ⟨by show 0 + 0 + (1 + alC ct (cp kt)) ≤ 1 + ((tld ct F kt j 2 (v j)).2.2 - kt); omega, by show 0 + 0 + (5 + alS ct (cp kt)) ≤ 5 + (cs (tld ct F kt j 2 (v j)).2.2 - cs kt); omega⟩) hZ (fun Mz H locs hp hZ => ?_)
        have hX4 : ∃ at2, Xi g Mz a ad at2 fa kr kf ((tld ct F kt j 2 (v j)).2.2) c cf ((tld ct F kt j 2 (v j)).1) ch cd R fr fh ((tld ct F kt j 2 (v j)).2.1) fb fl fd fs (va_up v j (itLo (v j))) ck ∧ ∀ u, u ≠ 11 → mm_same u M2 Mz := by
          rcases hp with ⟨h4, eM⟩ | ⟨h4, q, hT, hs⟩
          · have ht : tld ct F kt j 2 (v j) = (ct, F, kt) := if_neg (by omega)
            rw [ht, eM]; exact ⟨at0, hX2, fun u _ => mm_same.rf⟩
          · have ht : tld ct F kt j 2 (v j) = (ct + 1, va_up F ct (alv (nI j) 2 (v j).2.2.2.1 (v j).2.2.2.2.1 (v j).2.2.2.2.2.1.toInt32), lvl ct kt) := if_pos h4
            rw [(hal.2.2 h4).2] at hT
            rw [ht]; exact ⟨_, hX2.upT hT hs, hs⟩
        obtain ⟨at2, hX4, hs4⟩ := hX4
        refine W.widen (k := 1 + ((tld ct F kt j 2 (v j)).2.2 - kt)) (n := 5 + (cs (tld ct F kt j 2 (v j)).2.2 - cs kt)) (by show 0 + 0 + (1 + alC ct (cp kt)) ≤ _; omega) (by show 0 + 0 + (5 + alS ct (cp kt)) ≤ _; omega) ?_
        rw [hS] at eQ
        exact mm_vret E hr hlk eQ hZ d_X_tellLost_45 ⟨rfl, at2, hX4, fun u hu => (hs1 u (by omega)).tr (hs4 u (by omega))⟩
