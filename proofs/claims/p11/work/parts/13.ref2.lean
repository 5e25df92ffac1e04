/-! THE REFERENCE: alarm, rule, tell, fails, rowFor -/
theorem nI_5 (j u : Nat) : 5 * nI j + nI u = nI (5 * j + u) := by rw [show (5 : Int32) = nI 5 from rfl, pk_mul, nI_add]
theorem nI_50 (j : Nat) : 5 * nI j = nI (5 * j) := by rw [show (5 : Int32) = nI 5 from rfl, pk_mul]
/-- what a row may be -/
abbrev rCond (st pl sv : Int32) (wi : Int64) : Prop := (0 ≤ st.toInt64 ∧ st.toInt64 ≤ 8) ∧ ((-1) ≤ pl.toInt64 ∧ pl.toInt64 ≤ 49) ∧ ((-1) ≤ sv.toInt64 ∧ sv.toInt64 ≤ 4) ∧ (0 ≤ wi ∧ wi ≤ 10000000)
/-- the row k is for these -/
abbrev rowOk (I : Nat → Nat → Int32) (st pl sv : Int32) (k : Nat) : Prop := I 2 k = st ∧ (I 3 k < 0 ∨ I 3 k = pl) ∧ (I 4 k < 0 ∨ I 4 k = sv)
set_option maxHeartbeats 4000000 in
set_option maxRecDepth 100000 in
theorem c_Mod_alarm (l : Launch) (g : mm_G) {M : mm_M} {q : Nat} {ad : Nat → Nat} {I : Nat → Nat → Int32} {L : Nat → Nat → Int64} {S : Nat → Int32} {ck : Int64} (h0 : Rs g M q ad I L S ck) (i u : Int32) {n : Nat} (hn : S 18 = nI n) (hn2 : n < 2 ^ 31) : Ci l g y_Mod_alarm b_Mod_alarm 3 .int (rk 0 0 0 0) M [.ref q, .int i, .int u] (fun r M' => Rq g M M' q ad I L (va_up S 0 0) ck ∧ (((∀ j v, j < n → j < 400 → v < 5 → ¬ (i = nI j ∧ u = nI v)) ∧ r = (-1)) ∨ ∃ j v, j < n ∧ j < 400 ∧ v < 5 ∧ i = nI j ∧ u = nI v ∧ r = (L 19 (5 * j + v)).toInt32)) := by
  refine mm_enter (by decide) (Nat.le_of_ble_eq_true rfl) (fun pG eV s m args below meth cdx ls Q E hml hr hlk hnm hZ hl eQ => ?_)
  have hx := E.1
  have hb := E.2.1
  have hl : lv_has ls 3 [(0, .ref q), (1, .int i), (2, .int u)] := hl
  have hR := h0.q
  refine lv_aload_n hx hb d_Mod_alarm_0 rfl (lv_at hl 0 rfl) ?_
  refine lv_iconst (v := 0) hx hb d_Mod_alarm_1 (by decide) ?_
  refine rr_put0 E hZ hR fl_Mod_72 d_Mod_alarm_2 (fun M H locs hZ hR => ?_)
  refine lv_iload_n hx hb d_Mod_alarm_5 rfl (lv_at hl 1 rfl) ?_
  refine lv_if_lt (tgt := 33) hx hb d_Mod_alarm_6 (by decide) (fun c6 => ?_) (fun c6 => ?_)
  · refine lv_iconst (v := (-1)) hx hb d_Mod_alarm_33 (by decide) ?_
    refine lv_goto (tgt := 48) hx hb d_Mod_alarm_34 (by decide) ?_
    exact mm_iret (v := (-1)) E hr hlk eQ hZ d_Mod_alarm_48 ⟨_, rfl, hR, Or.inl ⟨fun j v hj h4 hv e => absurd (e.1 ▸ c6) (nI_pos (by omega)), rfl⟩⟩
  · refine lv_iload_n hx hb d_Mod_alarm_9 rfl (lv_at hl 1 rfl) ?_
    refine lv_aload_n hx hb d_Mod_alarm_10 rfl (lv_at hl 0 rfl) ?_
    refine mm_get (v := .int ((va_up S 0 0) 18)) E hZ cl_Mod fl_Mod_125 (by decide) hR.1.1 rfl d_Mod_alarm_11 ?_
    rw [show (va_up S 0 0) 18 = nI n from (va_up_ne _ _ (by decide)).trans (hn)]
    refine lv_icmp_ge (tgt := 33) hx hb d_Mod_alarm_14 (by decide) (fun c14 => ?_) (fun c14 => ?_)
    · refine lv_iconst (v := (-1)) hx hb d_Mod_alarm_33 (by decide) ?_
      refine lv_goto (tgt := 48) hx hb d_Mod_alarm_34 (by decide) ?_
      exact mm_iret (v := (-1)) E hr hlk eQ hZ d_Mod_alarm_48 ⟨_, rfl, hR, Or.inl ⟨fun j v hj h4 hv e => absurd c14 (Int32.not_le.mpr (e.1 ▸ nI_lt hj (by omega))), rfl⟩⟩
    · refine lv_iload_n hx hb d_Mod_alarm_17 rfl (lv_at hl 1 rfl) ?_
      refine lv_sipush (v := 399) hx hb d_Mod_alarm_18 (by decide) ?_
      refine lv_icmp_gt (tgt := 33) hx hb d_Mod_alarm_21 (by decide) (fun c21 => ?_) (fun c21 => ?_)
      · refine lv_iconst (v := (-1)) hx hb d_Mod_alarm_33 (by decide) ?_
        refine lv_goto (tgt := 48) hx hb d_Mod_alarm_34 (by decide) ?_
        exact mm_iret (v := (-1)) E hr hlk eQ hZ d_Mod_alarm_48 ⟨_, rfl, hR, Or.inl ⟨fun j v hj h4 hv e => absurd (show nI 399 < nI j from e.1 ▸ c21) (nI_nlt (by omega) (by omega)), rfl⟩⟩
      · refine lv_iload_n hx hb d_Mod_alarm_24 rfl (lv_at hl 2 rfl) ?_
        refine lv_if_lt (tgt := 33) hx hb d_Mod_alarm_25 (by decide) (fun c25 => ?_) (fun c25 => ?_)
        · refine lv_iconst (v := (-1)) hx hb d_Mod_alarm_33 (by decide) ?_
          refine lv_goto (tgt := 48) hx hb d_Mod_alarm_34 (by decide) ?_
          exact mm_iret (v := (-1)) E hr hlk eQ hZ d_Mod_alarm_48 ⟨_, rfl, hR, Or.inl ⟨fun j v hj h4 hv e => absurd (e.2 ▸ c25) (nI_pos (by omega)), rfl⟩⟩
        · refine lv_iload_n hx hb d_Mod_alarm_28 rfl (lv_at hl 2 rfl) ?_
          refine lv_iconst (v := 4) hx hb d_Mod_alarm_29 (by decide) ?_
          refine lv_icmp_le (tgt := 37) hx hb d_Mod_alarm_30 (by decide) (fun c30 => ?_) (fun c30 => ?_)
          · obtain ⟨j, hj, rfl⟩ : ∃ j : Nat, j < n ∧ i = nI j := by
              rcases pk_ix i hn2 with z | z | z
              · exact absurd z c6
              · exact absurd z c14
              · exact z
            obtain ⟨v, hv, rfl⟩ : ∃ v : Nat, v < 5 ∧ u = nI v := by
              rcases pk_ix u (show 5 < 2 ^ 31 by decide) with z | z | z
              · exact absurd z c25
              · exact absurd (show nI 5 ≤ 4 from Int32.le_trans z c30) (by decide)
              · exact z
            have h4 : j < 400 := by
              rcases Nat.lt_or_ge j 400 with z | z
              · exact z
              · exact absurd (show nI 399 < nI j from nI_lt (by omega) (by omega)) c21
            refine lv_aload_n hx hb d_Mod_alarm_37 rfl (lv_at hl 0 rfl) ?_
            refine mm_get (v := .ref (ad 19)) E hZ cl_Mod fl_Mod_54 (by decide) hR.1.1 rfl d_Mod_alarm_38 ?_
            refine lv_iconst (v := 5) hx hb d_Mod_alarm_41 (by decide) ?_
            refine lv_iload_n hx hb d_Mod_alarm_42 rfl (lv_at hl 1 rfl) ?_
            refine lv_imul hx hb d_Mod_alarm_43 ?_
            refine lv_iload_n hx hb d_Mod_alarm_44 rfl (lv_at hl 2 rfl) ?_
            refine lv_iadd hx hb d_Mod_alarm_45 ?_
            refine rr_lald 19 rfl E hZ hR (nI_5 j v) (show (5 * j + v) < 2000 by omega) d_Mod_alarm_46 ?_
            refine lv_l2i hx hb d_Mod_alarm_47 rfl ?_
            exact mm_iret (v := (L 19 (5 * j + v)).toInt32) E hr hlk eQ hZ d_Mod_alarm_48 ⟨_, rfl, hR, Or.inr ⟨j, v, hj, h4, hv, rfl, rfl, rfl⟩⟩
          · refine lv_iconst (v := (-1)) hx hb d_Mod_alarm_33 (by decide) ?_
            refine lv_goto (tgt := 48) hx hb d_Mod_alarm_34 (by decide) ?_
            exact mm_iret (v := (-1)) E hr hlk eQ hZ d_Mod_alarm_48 ⟨_, rfl, hR, Or.inl ⟨fun j v hj h4 hv e => absurd (show nI v ≤ nI 4 from nI_le (by omega) (by decide)) (e.2 ▸ c30), rfl⟩⟩
set_option maxHeartbeats 4000000 in
set_option maxRecDepth 100000 in
theorem c_Mod_rule (l : Launch) (g : mm_G) {M : mm_M} {q : Nat} {ad : Nat → Nat} {I : Nat → Nat → Int32} {L : Nat → Nat → Int64} {S : Nat → Int32} {ck : Int64} (h0 : Rs g M q ad I L S ck) (st pl sv : Int32) (wi : Int64) {fl : Int32} (hfl : bo fl) {n : Nat} (hn : S 1 = nI n) (hn4 : n ≤ 40) : Ci l g y_Mod_rule b_Mod_rule 7 .int (rk 1 25 0 0) M [.ref q, .int st, .int pl, .int sv, .long wi, .int fl] (fun r M' => (¬ rCond st pl sv wi ∧ r = (-102) ∧ Rq g M M' q ad I L (va_up S 0 0) ck) ∨ (rCond st pl sv wi ∧ nI n = 40 ∧ r = (-104) ∧ Rq g M M' q ad I L (va_up S 0 0) ck) ∨ (rCond st pl sv wi ∧ n < 40 ∧ r = nI (n + 1) ∧ Rq g M M' q ad (up2 (up2 (up2 (up2 I 2 (n + 1) st) 3 (n + 1) pl) 4 (n + 1) sv) 6 (n + 1) fl) (up2 L 5 (n + 1) wi) (va_up (va_up S 0 0) 1 (nI (n + 1))) ck)) := by
  refine mm_enter (by decide) (Nat.le_of_ble_eq_true rfl) (fun pG eV s m args below meth cdx ls Q E hml hr hlk hnm hZ hl eQ => ?_)
  have hx := E.1
  have hb := E.2.1
  have hl : lv_has ls 7 [(0, .ref q), (1, .int st), (2, .int pl), (3, .int sv), (4, .long wi), (6, .int fl)] := hl
  have hR := h0.q
  refine lv_aload_n hx hb d_Mod_rule_0 rfl (lv_at hl 0 rfl) ?_
  refine lv_iconst (v := 0) hx hb d_Mod_rule_1 (by decide) ?_
  refine rr_put0 E hZ hR fl_Mod_72 d_Mod_rule_2 (fun M H locs hZ hR => ?_)
  refine lv_iload_n hx hb d_Mod_rule_5 rfl (lv_at hl 1 rfl) ?_
  refine lv_i2l hx hb d_Mod_rule_6 rfl ?_
  refine lv_lconst (v := 0) hx hb d_Mod_rule_7 (by decide) ?_
  refine lv_ldc2 (v := 8) hx hb E.2.2.1 (E.2.2.2.1 _ w_697) d_Mod_rule_8 ?_
  refine mm_calli (mm_runS (As := [.long st.toInt64, .long 0, .long 8]) (rest := []) E hZ hml hl.1 lk_Mod_78 me_Mod_isIn st_Mod_isIn (c_Mod_isIn l g _ st.toInt64 0 8) ⟨Nat.le_of_ble_eq_true rfl, Nat.le_of_ble_eq_true rfl⟩ rfl (Nat.le_of_ble_eq_true rfl) d_Mod_rule_11 ⟨Nat.le_of_ble_eq_true rfl, Nat.le_of_ble_eq_true rfl⟩) hZ (fun r1 M1 H locs hp hZ => ?_)
  rw [hp.1] at hZ
  replace hp := hp.2
  have hp1 := hp
  clear hp
  refine lv_if_eq (tgt := 57) hx hb d_Mod_rule_14 (by decide) (fun c14 => ?_) (fun c14 => ?_)
  · refine lv_bipush (v := (-102)) hx hb d_Mod_rule_57 (by decide) ?_
    exact mm_iret (v := (-102)) E hr hlk eQ hZ d_Mod_rule_59 ⟨_, rfl, Or.inl ⟨fun z => b32_eq0.mp (hp1 ▸ c14) z.1, rfl, hR⟩⟩
  · refine lv_iload_n hx hb d_Mod_rule_17 rfl (lv_at hl 2 rfl) ?_
    refine lv_i2l hx hb d_Mod_rule_18 rfl ?_
    refine lv_ldc2 (v := (-1)) hx hb E.2.2.1 (E.2.2.2.1 _ w_701) d_Mod_rule_19 ?_
    refine lv_ldc2 (v := 49) hx hb E.2.2.1 (E.2.2.2.1 _ w_702) d_Mod_rule_22 ?_
    refine mm_calli (mm_runS (As := [.long pl.toInt64, .long (-1), .long 49]) (rest := []) E hZ hml hl.1 lk_Mod_78 me_Mod_isIn st_Mod_isIn (c_Mod_isIn l g _ pl.toInt64 (-1) 49) ⟨Nat.le_of_ble_eq_true rfl, Nat.le_of_ble_eq_true rfl⟩ rfl (Nat.le_of_ble_eq_true rfl) d_Mod_rule_25 ⟨Nat.le_of_ble_eq_true rfl, Nat.le_of_ble_eq_true rfl⟩) hZ (fun r2 M1 H locs hp hZ => ?_)
    rw [hp.1] at hZ
    replace hp := hp.2
    have hp2 := hp
    clear hp
    refine lv_if_eq (tgt := 57) hx hb d_Mod_rule_28 (by decide) (fun c28 => ?_) (fun c28 => ?_)
    · refine lv_bipush (v := (-102)) hx hb d_Mod_rule_57 (by decide) ?_
      exact mm_iret (v := (-102)) E hr hlk eQ hZ d_Mod_rule_59 ⟨_, rfl, Or.inl ⟨fun z => b32_eq0.mp (hp2 ▸ c28) z.2.1, rfl, hR⟩⟩
    · refine lv_iload_n hx hb d_Mod_rule_31 rfl (lv_at hl 3 rfl) ?_
      refine lv_i2l hx hb d_Mod_rule_32 rfl ?_
      refine lv_ldc2 (v := (-1)) hx hb E.2.2.1 (E.2.2.2.1 _ w_701) d_Mod_rule_33 ?_
      refine lv_ldc2 (v := 4) hx hb E.2.2.1 (E.2.2.2.1 _ w_703) d_Mod_rule_36 ?_
      refine mm_calli (mm_runS (As := [.long sv.toInt64, .long (-1), .long 4]) (rest := []) E hZ hml hl.1 lk_Mod_78 me_Mod_isIn st_Mod_isIn (c_Mod_isIn l g _ sv.toInt64 (-1) 4) ⟨Nat.le_of_ble_eq_true rfl, Nat.le_of_ble_eq_true rfl⟩ rfl (Nat.le_of_ble_eq_true rfl) d_Mod_rule_39 ⟨Nat.le_of_ble_eq_true rfl, Nat.le_of_ble_eq_true rfl⟩) hZ (fun r3 M1 H locs hp hZ => ?_)
      rw [hp.1] at hZ
      replace hp := hp.2
      have hp3 := hp
      clear hp
      refine lv_if_eq (tgt := 57) hx hb d_Mod_rule_42 (by decide) (fun c42 => ?_) (fun c42 => ?_)
      · refine lv_bipush (v := (-102)) hx hb d_Mod_rule_57 (by decide) ?_
        exact mm_iret (v := (-102)) E hr hlk eQ hZ d_Mod_rule_59 ⟨_, rfl, Or.inl ⟨fun z => b32_eq0.mp (hp3 ▸ c42) z.2.2.1, rfl, hR⟩⟩
      · refine lv_lload hx hb d_Mod_rule_45 (lv_at hl 4 rfl) ?_
        refine lv_lconst (v := 0) hx hb d_Mod_rule_47 (by decide) ?_
        refine lv_ldc2 (v := 10000000) hx hb E.2.2.1 (E.2.2.2.1 _ w_704) d_Mod_rule_48 ?_
        refine mm_calli (mm_runS (As := [.long wi, .long 0, .long 10000000]) (rest := []) E hZ hml hl.1 lk_Mod_78 me_Mod_isIn st_Mod_isIn (c_Mod_isIn l g _ wi 0 10000000) ⟨Nat.le_of_ble_eq_true rfl, Nat.le_of_ble_eq_true rfl⟩ rfl (Nat.le_of_ble_eq_true rfl) d_Mod_rule_51 ⟨Nat.le_of_ble_eq_true rfl, Nat.le_of_ble_eq_true rfl⟩) hZ (fun r4 M1 H locs hp hZ => ?_)
        rw [hp.1] at hZ
        replace hp := hp.2
        have hp4 := hp
        clear hp
        refine lv_if_ne (tgt := 60) hx hb d_Mod_rule_54 (by decide) (fun c54 => ?_) (fun c54 => ?_)
        · have hC : rCond st pl sv wi := ⟨b32_ne0 (hp1 ▸ c14), b32_ne0 (hp2 ▸ c28), b32_ne0 (hp3 ▸ c42), b32_ne0 (hp4 ▸ c54)⟩
          refine lv_aload_n hx hb d_Mod_rule_60 rfl (lv_at hl 0 rfl) ?_
          refine mm_get (v := .int ((va_up S 0 0) 1)) E hZ cl_Mod fl_Mod_90 (by decide) hR.1.1 rfl d_Mod_rule_61 ?_
          rw [show (va_up S 0 0) 1 = nI n from (va_up_ne _ _ (by decide)).trans (hn)]
          refine lv_bipush (v := 40) hx hb d_Mod_rule_64 (by decide) ?_
          refine lv_icmp_ne (tgt := 72) hx hb d_Mod_rule_66 (by decide) (fun c66 => ?_) (fun c66 => ?_)
          · have hn4 : n < 40 := by
              rcases Nat.lt_or_ge n 40 with z | z
              · exact z
              · exact absurd (show nI n = nI 40 by rw [show n = 40 by omega]) c66
            refine lv_aload_n hx hb d_Mod_rule_72 rfl (lv_at hl 0 rfl) ?_
            refine lv_dup hx hb d_Mod_rule_73 rfl ?_
            refine mm_get (v := .int ((va_up S 0 0) 1)) E hZ cl_Mod fl_Mod_90 (by decide) hR.1.1 rfl d_Mod_rule_74 ?_
            rw [show (va_up S 0 0) 1 = nI n from (va_up_ne _ _ (by decide)).trans (hn)]
            refine lv_iconst (v := 1) hx hb d_Mod_rule_77 (by decide) ?_
            refine lv_iadd hx hb d_Mod_rule_78 ?_
            refine rr_put1 E hZ hR fl_Mod_90 d_Mod_rule_79 (fun M H locs hZ hR => ?_)
            refine lv_aload_n hx hb d_Mod_rule_82 rfl (lv_at hl 0 rfl) ?_
            refine mm_get (v := .ref (ad 2)) E hZ cl_Mod fl_Mod_7 (by decide) hR.1.1 rfl d_Mod_rule_83 ?_
            refine lv_aload_n hx hb d_Mod_rule_86 rfl (lv_at hl 0 rfl) ?_
            refine mm_get (v := .int ((va_up (va_up S 0 0) 1 ((nI n) + 1)) 1)) E hZ cl_Mod fl_Mod_90 (by decide) hR.1.1 rfl d_Mod_rule_87 ?_
            rw [show (va_up (va_up S 0 0) 1 ((nI n) + 1)) 1 = (nI n) + 1 from va_up_self _ _ _]
            refine lv_iload_n hx hb d_Mod_rule_90 rfl (lv_at hl 1 rfl) ?_
            refine rr_iast 2 rfl rfl E hZ hR (nI_1 n) (show (n + 1) < 41 by omega) d_Mod_rule_91 (fun M H locs hZ hR => ?_)
            refine lv_aload_n hx hb d_Mod_rule_92 rfl (lv_at hl 0 rfl) ?_
            refine mm_get (v := .ref (ad 3)) E hZ cl_Mod fl_Mod_13 (by decide) hR.1.1 rfl d_Mod_rule_93 ?_
            refine lv_aload_n hx hb d_Mod_rule_96 rfl (lv_at hl 0 rfl) ?_
            refine mm_get (v := .int ((va_up (va_up S 0 0) 1 ((nI n) + 1)) 1)) E hZ cl_Mod fl_Mod_90 (by decide) hR.1.1 rfl d_Mod_rule_97 ?_
            rw [show (va_up (va_up S 0 0) 1 ((nI n) + 1)) 1 = (nI n) + 1 from va_up_self _ _ _]
            refine lv_iload_n hx hb d_Mod_rule_100 rfl (lv_at hl 2 rfl) ?_
            refine rr_iast 3 rfl rfl E hZ hR (nI_1 n) (show (n + 1) < 41 by omega) d_Mod_rule_101 (fun M H locs hZ hR => ?_)
            refine lv_aload_n hx hb d_Mod_rule_102 rfl (lv_at hl 0 rfl) ?_
            refine mm_get (v := .ref (ad 4)) E hZ cl_Mod fl_Mod_16 (by decide) hR.1.1 rfl d_Mod_rule_103 ?_
            refine lv_aload_n hx hb d_Mod_rule_106 rfl (lv_at hl 0 rfl) ?_
            refine mm_get (v := .int ((va_up (va_up S 0 0) 1 ((nI n) + 1)) 1)) E hZ cl_Mod fl_Mod_90 (by decide) hR.1.1 rfl d_Mod_rule_107 ?_
            rw [show (va_up (va_up S 0 0) 1 ((nI n) + 1)) 1 = (nI n) + 1 from va_up_self _ _ _]
            refine lv_iload_n hx hb d_Mod_rule_110 rfl (lv_at hl 3 rfl) ?_
            refine rr_iast 4 rfl rfl E hZ hR (nI_1 n) (show (n + 1) < 41 by omega) d_Mod_rule_111 (fun M H locs hZ hR => ?_)
            refine lv_aload_n hx hb d_Mod_rule_112 rfl (lv_at hl 0 rfl) ?_
            refine mm_get (v := .ref (ad 5)) E hZ cl_Mod fl_Mod_19 (by decide) hR.1.1 rfl d_Mod_rule_113 ?_
            refine lv_aload_n hx hb d_Mod_rule_116 rfl (lv_at hl 0 rfl) ?_
            refine mm_get (v := .int ((va_up (va_up S 0 0) 1 ((nI n) + 1)) 1)) E hZ cl_Mod fl_Mod_90 (by decide) hR.1.1 rfl d_Mod_rule_117 ?_
            rw [show (va_up (va_up S 0 0) 1 ((nI n) + 1)) 1 = (nI n) + 1 from va_up_self _ _ _]
            refine lv_lload hx hb d_Mod_rule_120 (lv_at hl 4 rfl) ?_
            refine rr_last 5 rfl E hZ hR (nI_1 n) (show (n + 1) < 41 by omega) d_Mod_rule_122 (fun M H locs hZ hR => ?_)
            refine lv_aload_n hx hb d_Mod_rule_123 rfl (lv_at hl 0 rfl) ?_
            refine mm_get (v := .ref (ad 6)) E hZ cl_Mod fl_Mod_23 (by decide) hR.1.1 rfl d_Mod_rule_124 ?_
            refine lv_aload_n hx hb d_Mod_rule_127 rfl (lv_at hl 0 rfl) ?_
            refine mm_get (v := .int ((va_up (va_up S 0 0) 1 ((nI n) + 1)) 1)) E hZ cl_Mod fl_Mod_90 (by decide) hR.1.1 rfl d_Mod_rule_128 ?_
            rw [show (va_up (va_up S 0 0) 1 ((nI n) + 1)) 1 = (nI n) + 1 from va_up_self _ _ _]
            refine lv_iload hx hb d_Mod_rule_131 (lv_at hl 5 rfl) ?_
            refine rr_zast 6 rfl rfl E hZ hR hfl (nI_1 n) (show (n + 1) < 41 by omega) d_Mod_rule_133 (fun M H locs hZ hR => ?_)
            refine lv_aload_n hx hb d_Mod_rule_134 rfl (lv_at hl 0 rfl) ?_
            refine mm_get (v := .int ((va_up (va_up S 0 0) 1 ((nI n) + 1)) 1)) E hZ cl_Mod fl_Mod_90 (by decide) hR.1.1 rfl d_Mod_rule_135 ?_
            rw [show (va_up (va_up S 0 0) 1 ((nI n) + 1)) 1 = (nI n) + 1 from va_up_self _ _ _]
            exact mm_iret (v := (nI n) + 1) E hr hlk eQ hZ d_Mod_rule_138 ⟨_, rfl, Or.inr (Or.inr ⟨hC, hn4, nI_1 n, by rw [nI_1] at hR; exact hR⟩)⟩
          · refine lv_bipush (v := (-104)) hx hb d_Mod_rule_69 (by decide) ?_
            exact mm_iret (v := (-104)) E hr hlk eQ hZ d_Mod_rule_71 ⟨_, rfl, Or.inr (Or.inl ⟨hC, c66, rfl, hR⟩)⟩
        · refine lv_bipush (v := (-102)) hx hb d_Mod_rule_57 (by decide) ?_
          exact mm_iret (v := (-102)) E hr hlk eQ hZ d_Mod_rule_59 ⟨_, rfl, Or.inl ⟨fun z => b32_eq0.mp (hp4 ▸ c54) z.2.2.2, rfl, hR⟩⟩
set_option maxHeartbeats 4000000 in
set_option maxRecDepth 100000 in
theorem c_Mod_tell (l : Launch) (g : mm_G) {M : mm_M} {q : Nat} {ad : Nat → Nat} {I : Nat → Nat → Int32} {L : Nat → Nat → Int64} {S : Nat → Int32} {ck : Int64} (h0 : Rs g M q ad I L S ck) {i : Nat} (hi : i < 200) (k : Int32) {n : Nat} (hn : S 18 = nI n) (hn2 : n < 2 ^ 30) : Cv l g y_Mod_tell b_Mod_tell 3 (rk 0 0 0 0) M [.ref q, .int (nI i), .int k] (fun M' => (n < 400 ∧ Rq g M M' q ad I (up2 (up2 (up2 (up2 (up2 L 19 (5 * n) (nI i).toInt64) 19 (5 * n + 1) k.toInt64) 19 (5 * n + 2) (I 10 i).toInt64) 19 (5 * n + 3) (I 11 i).toInt64) 19 (5 * n + 4) (up2 (up2 (up2 (up2 L 19 (5 * n) (nI i).toInt64) 19 (5 * n + 1) k.toInt64) 19 (5 * n + 2) (I 10 i).toInt64) 19 (5 * n + 3) (I 11 i).toInt64 12 i)) (va_up S 18 (nI (n + 1))) ck) ∨ (400 ≤ n ∧ Rq g M M' q ad I L (va_up S 18 (nI (n + 1))) ck)) := by
  refine mm_enter (by decide) (Nat.le_of_ble_eq_true rfl) (fun pG eV s m args below meth cdx ls Q E hml hr hlk hnm hZ hl eQ => ?_)
  have hx := E.1
  have hb := E.2.1
  have hl : lv_has ls 3 [(0, .ref q), (1, .int (nI i)), (2, .int k)] := hl
  have hR := h0.q
  refine lv_aload_n hx hb d_Mod_tell_0 rfl (lv_at hl 0 rfl) ?_
  refine mm_get (v := .int (S 18)) E hZ cl_Mod fl_Mod_125 (by decide) hR.1.1 rfl d_Mod_tell_1 ?_
  rw [hn]
  refine lv_sipush (v := 400) hx hb d_Mod_tell_4 (by decide) ?_
  refine lv_icmp_ge (tgt := 97) hx hb d_Mod_tell_7 (by decide) (fun c7 => ?_) (fun c7 => ?_)
  · have h4 : 400 ≤ n := by
      rcases Nat.lt_or_ge n 400 with z | z
      · exact absurd (show nI 400 ≤ nI n from c7) (nI_ge z (by decide))
      · exact z
    refine lv_aload_n hx hb d_Mod_tell_97 rfl (lv_at hl 0 rfl) ?_
    refine lv_dup hx hb d_Mod_tell_98 rfl ?_
    refine mm_get (v := .int (S 18)) E hZ cl_Mod fl_Mod_125 (by decide) hR.1.1 rfl d_Mod_tell_99 ?_
    rw [hn]
    refine lv_iconst (v := 1) hx hb d_Mod_tell_102 (by decide) ?_
    refine lv_iadd hx hb d_Mod_tell_103 ?_
    refine rr_put18 E hZ hR fl_Mod_125 d_Mod_tell_104 (fun M H locs hZ hR => ?_)
    exact mm_vret E hr hlk eQ hZ d_Mod_tell_107 ⟨rfl, Or.inr ⟨h4, by rw [nI_1] at hR; exact hR⟩⟩
  · have h4 : n < 400 := by
      rcases Nat.lt_or_ge n 400 with z | z
      · exact z
      · exact absurd (show nI 400 ≤ nI n from nI_le z (by omega)) c7
    refine lv_aload_n hx hb d_Mod_tell_10 rfl (lv_at hl 0 rfl) ?_
    refine mm_get (v := .ref (ad 19)) E hZ cl_Mod fl_Mod_54 (by decide) hR.1.1 rfl d_Mod_tell_11 ?_
    refine lv_iconst (v := 5) hx hb d_Mod_tell_14 (by decide) ?_
    refine lv_aload_n hx hb d_Mod_tell_15 rfl (lv_at hl 0 rfl) ?_
    refine mm_get (v := .int (S 18)) E hZ cl_Mod fl_Mod_125 (by decide) hR.1.1 rfl d_Mod_tell_16 ?_
    rw [hn]
    refine lv_imul hx hb d_Mod_tell_19 ?_
    refine lv_iload_n hx hb d_Mod_tell_20 rfl (lv_at hl 1 rfl) ?_
    refine lv_i2l hx hb d_Mod_tell_21 rfl ?_
    refine rr_last 19 rfl E hZ hR (nI_50 n) (show (5 * n) < 2000 by omega) d_Mod_tell_22 (fun M H locs hZ hR => ?_)
    refine lv_aload_n hx hb d_Mod_tell_23 rfl (lv_at hl 0 rfl) ?_
    refine mm_get (v := .ref (ad 19)) E hZ cl_Mod fl_Mod_54 (by decide) hR.1.1 rfl d_Mod_tell_24 ?_
    refine lv_iconst (v := 5) hx hb d_Mod_tell_27 (by decide) ?_
    refine lv_aload_n hx hb d_Mod_tell_28 rfl (lv_at hl 0 rfl) ?_
    refine mm_get (v := .int (S 18)) E hZ cl_Mod fl_Mod_125 (by decide) hR.1.1 rfl d_Mod_tell_29 ?_
    rw [hn]
    refine lv_imul hx hb d_Mod_tell_32 ?_
    refine lv_iconst (v := 1) hx hb d_Mod_tell_33 (by decide) ?_
    refine lv_iadd hx hb d_Mod_tell_34 ?_
    refine lv_iload_n hx hb d_Mod_tell_35 rfl (lv_at hl 2 rfl) ?_
    refine lv_i2l hx hb d_Mod_tell_36 rfl ?_
    refine rr_last 19 rfl E hZ hR (nI_5 n 1) (show (5 * n + 1) < 2000 by omega) d_Mod_tell_37 (fun M H locs hZ hR => ?_)
    refine lv_aload_n hx hb d_Mod_tell_38 rfl (lv_at hl 0 rfl) ?_
    refine mm_get (v := .ref (ad 19)) E hZ cl_Mod fl_Mod_54 (by decide) hR.1.1 rfl d_Mod_tell_39 ?_
    refine lv_iconst (v := 5) hx hb d_Mod_tell_42 (by decide) ?_
    refine lv_aload_n hx hb d_Mod_tell_43 rfl (lv_at hl 0 rfl) ?_
    refine mm_get (v := .int (S 18)) E hZ cl_Mod fl_Mod_125 (by decide) hR.1.1 rfl d_Mod_tell_44 ?_
    rw [hn]
    refine lv_imul hx hb d_Mod_tell_47 ?_
    refine lv_iconst (v := 2) hx hb d_Mod_tell_48 (by decide) ?_
    refine lv_iadd hx hb d_Mod_tell_49 ?_
    refine lv_aload_n hx hb d_Mod_tell_50 rfl (lv_at hl 0 rfl) ?_
    refine mm_get (v := .ref (ad 10)) E hZ cl_Mod fl_Mod_36 (by decide) hR.1.1 rfl d_Mod_tell_51 ?_
    refine lv_iload_n hx hb d_Mod_tell_54 rfl (lv_at hl 1 rfl) ?_
    refine rr_iald 10 rfl rfl E hZ hR rfl (show i < 200 by omega) d_Mod_tell_55 ?_
    refine lv_i2l hx hb d_Mod_tell_56 rfl ?_
    refine rr_last 19 rfl E hZ hR (nI_5 n 2) (show (5 * n + 2) < 2000 by omega) d_Mod_tell_57 (fun M H locs hZ hR => ?_)
    refine lv_aload_n hx hb d_Mod_tell_58 rfl (lv_at hl 0 rfl) ?_
    refine mm_get (v := .ref (ad 19)) E hZ cl_Mod fl_Mod_54 (by decide) hR.1.1 rfl d_Mod_tell_59 ?_
    refine lv_iconst (v := 5) hx hb d_Mod_tell_62 (by decide) ?_
    refine lv_aload_n hx hb d_Mod_tell_63 rfl (lv_at hl 0 rfl) ?_
    refine mm_get (v := .int (S 18)) E hZ cl_Mod fl_Mod_125 (by decide) hR.1.1 rfl d_Mod_tell_64 ?_
    rw [hn]
    refine lv_imul hx hb d_Mod_tell_67 ?_
    refine lv_iconst (v := 3) hx hb d_Mod_tell_68 (by decide) ?_
    refine lv_iadd hx hb d_Mod_tell_69 ?_
    refine lv_aload_n hx hb d_Mod_tell_70 rfl (lv_at hl 0 rfl) ?_
    refine mm_get (v := .ref (ad 11)) E hZ cl_Mod fl_Mod_39 (by decide) hR.1.1 rfl d_Mod_tell_71 ?_
    refine lv_iload_n hx hb d_Mod_tell_74 rfl (lv_at hl 1 rfl) ?_
    refine rr_iald 11 rfl rfl E hZ hR rfl (show i < 200 by omega) d_Mod_tell_75 ?_
    refine lv_i2l hx hb d_Mod_tell_76 rfl ?_
    refine rr_last 19 rfl E hZ hR (nI_5 n 3) (show (5 * n + 3) < 2000 by omega) d_Mod_tell_77 (fun M H locs hZ hR => ?_)
    refine lv_aload_n hx hb d_Mod_tell_78 rfl (lv_at hl 0 rfl) ?_
    refine mm_get (v := .ref (ad 19)) E hZ cl_Mod fl_Mod_54 (by decide) hR.1.1 rfl d_Mod_tell_79 ?_
    refine lv_iconst (v := 5) hx hb d_Mod_tell_82 (by decide) ?_
    refine lv_aload_n hx hb d_Mod_tell_83 rfl (lv_at hl 0 rfl) ?_
    refine mm_get (v := .int (S 18)) E hZ cl_Mod fl_Mod_125 (by decide) hR.1.1 rfl d_Mod_tell_84 ?_
    rw [hn]
    refine lv_imul hx hb d_Mod_tell_87 ?_
    refine lv_iconst (v := 4) hx hb d_Mod_tell_88 (by decide) ?_
    refine lv_iadd hx hb d_Mod_tell_89 ?_
    refine lv_aload_n hx hb d_Mod_tell_90 rfl (lv_at hl 0 rfl) ?_
    refine mm_get (v := .ref (ad 12)) E hZ cl_Mod fl_Mod_42 (by decide) hR.1.1 rfl d_Mod_tell_91 ?_
    refine lv_iload_n hx hb d_Mod_tell_94 rfl (lv_at hl 1 rfl) ?_
    refine rr_lald 12 rfl E hZ hR rfl (show i < 200 by omega) d_Mod_tell_95 ?_
    refine rr_last 19 rfl E hZ hR (nI_5 n 4) (show (5 * n + 4) < 2000 by omega) d_Mod_tell_96 (fun M H locs hZ hR => ?_)
    refine lv_aload_n hx hb d_Mod_tell_97 rfl (lv_at hl 0 rfl) ?_
    refine lv_dup hx hb d_Mod_tell_98 rfl ?_
    refine mm_get (v := .int (S 18)) E hZ cl_Mod fl_Mod_125 (by decide) hR.1.1 rfl d_Mod_tell_99 ?_
    rw [hn]
    refine lv_iconst (v := 1) hx hb d_Mod_tell_102 (by decide) ?_
    refine lv_iadd hx hb d_Mod_tell_103 ?_
    refine rr_put18 E hZ hR fl_Mod_125 d_Mod_tell_104 (fun M H locs hZ hR => ?_)
    exact mm_vret E hr hlk eQ hZ d_Mod_tell_107 ⟨rfl, Or.inl ⟨h4, by rw [nI_1] at hR; exact hR⟩⟩
theorem lt_of_ne_last {I : Nat → Int32} {j k : Nat} {row : Int32} (h : j < k + 1) (hj : I j = row) (hk : ¬ I k = row) : j < k := by
  rcases Nat.lt_or_ge j k with y | y
  · exact y
  · exact absurd (by rw [show k = j by omega]; exact hj) hk
set_option maxHeartbeats 4000000 in
set_option maxRecDepth 100000 in
theorem c_Mod_fails (l : Launch) (g : mm_G) {M : mm_M} {q : Nat} {ad : Nat → Nat} {I : Nat → Nat → Int32} {L : Nat → Nat → Int64} {S : Nat → Int32} {ck : Int64} (h0 : Rs g M q ad I L S ck) (row : Int32) {f : Nat} (hf : S 24 = nI f) (hf4 : f ≤ 40) (h4 : (¬ ∃ j, j < f ∧ I 25 j = row) → f < 40) : Cv l g y_Mod_fails b_Mod_fails 4 (rk 0 0 0 0) M [.ref q, .int row] (fun M' => ((∃ j, j < f ∧ I 25 j = row) ∧ Rq g M M' q ad I L S ck) ∨ ((¬ ∃ j, j < f ∧ I 25 j = row) ∧ Rq g M M' q ad (up2 I 25 f row) L (va_up S 24 (nI (f + 1))) ck)) := by
  refine mm_enter (by decide) (Nat.le_of_ble_eq_true rfl) (fun pG eV s m args below meth cdx ls Q E hml hr hlk hnm hZ hl eQ => ?_)
  have hx := E.1
  have hb := E.2.1
  have hl : lv_has ls 4 [(0, .ref q), (1, .int row)] := hl
  have hR := h0.q
  refine lv_iconst (v := 0) hx hb d_Mod_fails_0 (by decide) ?_
  refine lv_istore_n (lv' := [(2, .int 0), (0, .ref q), (1, .int row)]) hx hb d_Mod_fails_1 rfl hl (by decide) rfl (fun ls hl => ?_)
  refine lv_iconst (v := 0) hx hb d_Mod_fails_2 (by decide) ?_
  refine lv_istore_n (lv' := [(3, .int 0), (2, .int 0), (0, .ref q), (1, .int row)]) hx hb d_Mod_fails_3 rfl hl (by decide) rfl (fun ls hl => ?_)
  have loop : ∀ (n : Nat) (k : Nat) (has : Int32) (ls : Array Slot), k ≤ f → bo has → ((¬ has = 0) ↔ ∃ j, j < k ∧ I 25 j = row) → f + 1 ≤ k + n → lv_has ls 4 [(0, .ref q), (1, .int row), (2, .int has), (3, .int (nI k))] → W pG l eV (rk 0 0 0 0) s m args below meth cdx s.heap [] 0 0 Q (F0 m 4 ls []) := by
    intro n
    induction n with
    | zero => exact fun k has ls hkf hbo hh hfu _ => absurd hfu (by omega)
    | succ n ih =>
      intro k has ls hkf hbo hh hfu hl
      refine lv_iload_n hx hb d_Mod_fails_4 rfl (lv_at hl 3 rfl) ?_
      refine lv_aload_n hx hb d_Mod_fails_5 rfl (lv_at hl 0 rfl) ?_
      refine mm_get (v := .int (S 24)) E hZ cl_Mod fl_Mod_99 (by decide) hR.1.1 rfl d_Mod_fails_6 ?_
      rw [hf]
      refine lv_icmp_ge (tgt := 38) hx hb d_Mod_fails_9 (by decide) (fun c9 => ?_) (fun c9 => ?_)
      · have hk : k = f := by
          rcases Nat.lt_or_ge k f with z | z
          · exact absurd c9 (nI_ge z (by omega))
          · omega
        rw [hk] at hh
        refine lv_iload_n hx hb d_Mod_fails_38 rfl (lv_at hl 2 rfl) ?_
        refine lv_if_ne (tgt := 62) hx hb d_Mod_fails_39 (by decide) (fun c39 => ?_) (fun c39 => ?_)
        · exact mm_vret E hr hlk eQ hZ d_Mod_fails_62 ⟨rfl, Or.inl ⟨hh.mp c39, hR⟩⟩
        · have hno : ¬ ∃ j, j < f ∧ I 25 j = row := fun z => absurd c39 (hh.mpr z)
          have hk4 := h4 hno
          refine lv_aload_n hx hb d_Mod_fails_42 rfl (lv_at hl 0 rfl) ?_
          refine mm_get (v := .ref (ad 25)) E hZ cl_Mod fl_Mod_69 (by decide) hR.1.1 rfl d_Mod_fails_43 ?_
          refine lv_aload_n hx hb d_Mod_fails_46 rfl (lv_at hl 0 rfl) ?_
          refine mm_get (v := .int (S 24)) E hZ cl_Mod fl_Mod_99 (by decide) hR.1.1 rfl d_Mod_fails_47 ?_
          rw [hf]
          refine lv_iload_n hx hb d_Mod_fails_50 rfl (lv_at hl 1 rfl) ?_
          refine rr_iast 25 rfl rfl E hZ hR rfl (show f < 40 by omega) d_Mod_fails_51 (fun M H locs hZ hR => ?_)
          refine lv_aload_n hx hb d_Mod_fails_52 rfl (lv_at hl 0 rfl) ?_
          refine lv_dup hx hb d_Mod_fails_53 rfl ?_
          refine mm_get (v := .int (S 24)) E hZ cl_Mod fl_Mod_99 (by decide) hR.1.1 rfl d_Mod_fails_54 ?_
          rw [hf]
          refine lv_iconst (v := 1) hx hb d_Mod_fails_57 (by decide) ?_
          refine lv_iadd hx hb d_Mod_fails_58 ?_
          refine rr_put24 E hZ hR fl_Mod_99 d_Mod_fails_59 (fun M H locs hZ hR => ?_)
          exact mm_vret E hr hlk eQ hZ d_Mod_fails_62 ⟨rfl, Or.inr ⟨hno, by rw [nI_1] at hR; exact hR⟩⟩
      · have hk : k < f := by
          rcases Nat.lt_or_ge k f with z | z
          · exact z
          · exact absurd (nI_le z (by omega)) c9
        refine lv_iload_n hx hb d_Mod_fails_12 rfl (lv_at hl 2 rfl) ?_
        refine lv_if_ne (tgt := 26) hx hb d_Mod_fails_13 (by decide) (fun c13 => ?_) (fun c13 => ?_)
        · refine lv_iconst (v := 1) hx hb d_Mod_fails_26 (by decide) ?_
          refine lv_goto (tgt := 31) hx hb d_Mod_fails_27 (by decide) ?_
          refine lv_istore_n (lv' := [(2, .int 1), (0, .ref q), (1, .int row), (3, .int (nI k))]) hx hb d_Mod_fails_31 rfl hl (by decide) rfl (fun ls hl => ?_)
          refine lv_iinc (v := (nI k) + 1) (lv' := [(3, .int ((nI k) + 1)), (2, .int 1), (0, .ref q), (1, .int row)]) hx hb d_Mod_fails_32 hl (k := 3) rfl rfl (by decide) rfl (fun ls hl => ?_)
          refine lv_goto (tgt := 4) hx hb d_Mod_fails_35 (by decide) ?_
          rw [nI_1] at hl
          exact ih (k + 1) 1 ls (by omega) bo_1 ⟨fun _ => (hh.mp c13).elim (fun j z => ⟨j, by omega, z.2⟩), fun _ => by decide⟩ (by omega) (lv_sub hl [2, 3, 1, 0] rfl)
        · refine lv_aload_n hx hb d_Mod_fails_16 rfl (lv_at hl 0 rfl) ?_
          refine mm_get (v := .ref (ad 25)) E hZ cl_Mod fl_Mod_69 (by decide) hR.1.1 rfl d_Mod_fails_17 ?_
          refine lv_iload_n hx hb d_Mod_fails_20 rfl (lv_at hl 3 rfl) ?_
          refine rr_iald 25 rfl rfl E hZ hR rfl (show k < 40 by omega) d_Mod_fails_21 ?_
          refine lv_iload_n hx hb d_Mod_fails_22 rfl (lv_at hl 1 rfl) ?_
          refine lv_icmp_ne (tgt := 30) hx hb d_Mod_fails_23 (by decide) (fun c23 => ?_) (fun c23 => ?_)
          · refine lv_iconst (v := 0) hx hb d_Mod_fails_30 (by decide) ?_
            refine lv_istore_n (lv' := [(2, .int 0), (0, .ref q), (1, .int row), (3, .int (nI k))]) hx hb d_Mod_fails_31 rfl hl (by decide) rfl (fun ls hl => ?_)
            refine lv_iinc (v := (nI k) + 1) (lv' := [(3, .int ((nI k) + 1)), (2, .int 0), (0, .ref q), (1, .int row)]) hx hb d_Mod_fails_32 hl (k := 3) rfl rfl (by decide) rfl (fun ls hl => ?_)
            refine lv_goto (tgt := 4) hx hb d_Mod_fails_35 (by decide) ?_
            rw [nI_1] at hl
            exact ih (k + 1) 0 ls (by omega) bo_0 ⟨fun z => absurd rfl z, fun ⟨j, z1, z2⟩ => absurd c13 (hh.mpr ⟨j, lt_of_ne_last z1 z2 c23, z2⟩)⟩ (by omega) (lv_sub hl [2, 3, 1, 0] rfl)
          · refine lv_iconst (v := 1) hx hb d_Mod_fails_26 (by decide) ?_
            refine lv_goto (tgt := 31) hx hb d_Mod_fails_27 (by decide) ?_
            refine lv_istore_n (lv' := [(2, .int 1), (0, .ref q), (1, .int row), (3, .int (nI k))]) hx hb d_Mod_fails_31 rfl hl (by decide) rfl (fun ls hl => ?_)
            refine lv_iinc (v := (nI k) + 1) (lv' := [(3, .int ((nI k) + 1)), (2, .int 1), (0, .ref q), (1, .int row)]) hx hb d_Mod_fails_32 hl (k := 3) rfl rfl (by decide) rfl (fun ls hl => ?_)
            refine lv_goto (tgt := 4) hx hb d_Mod_fails_35 (by decide) ?_
            rw [nI_1] at hl
            exact ih (k + 1) 1 ls (by omega) bo_1 ⟨fun _ => ⟨k, by omega, c23⟩, fun _ => by decide⟩ (by omega) (lv_sub hl [2, 3, 1, 0] rfl)
  exact loop (f + 1) 0 0 ls (Nat.zero_le _) bo_0 ⟨fun z => absurd rfl z, fun ⟨j, z, _⟩ => absurd z (Nat.not_lt_zero j)⟩ (by omega) (lv_sub hl [2, 3, 1, 0] rfl)
