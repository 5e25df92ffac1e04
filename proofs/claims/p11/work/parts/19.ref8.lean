/-! THE REFERENCE: event -/
/-- k is the first of nr rows that is for these; 0 when none is -/
def rowFirst (I : Nat → Nat → Int32) (nr : Nat) (st pl sv : Int32) (k : Nat) : Prop := (k = 0 ∧ ∀ j, 1 ≤ j → j ≤ nr → ¬ rowOk I st pl sv j) ∨ (1 ≤ k ∧ rowOk I st pl sv k ∧ ∀ j, 1 ≤ j → j < k → ¬ rowOk I st pl sv j)
theorem rowFirst_of {I I' : Nat → Nat → Int32} {nr : Nat} {st pl sv : Int32} {k : Nat} (h2 : I' 2 = I 2) (h3 : I' 3 = I 3) (h4 : I' 4 = I 4) (h : rowFirst I' nr st pl sv k) : rowFirst I nr st pl sv k := by
  simpa only [rowFirst, rowOk, h2, h3, h4] using h
abbrev evL (I : Nat → Nat → Int32) (L : Nat → Nat → Int64) (j : Nat) (t : Int64) : Nat → Nat → Int64 := up2 (up2 L 8 j (if I 7 j < 0 then t else L 8 j)) 9 j t
/-- the days of a delivery -/
abbrev evD (I : Nat → Nat → Int32) (L : Nat → Nat → Int64) (j : Nat) (t : Int64) : Int32 := ((t - evL I L j t 8 j) / 86400).toInt32
theorem evL_f (I : Nat → Nat → Int32) (L : Nat → Nat → Int64) (j : Nat) (t : Int64) {k : Nat} (h : k ≠ 8 ∧ k ≠ 9) : evL I L j t k = L k := by
  show up2 (up2 L 8 j (if I 7 j < 0 then t else L 8 j)) 9 j t k = L k
  rw [up2_f _ _ _ h.2, up2_f _ _ _ h.1]
theorem rEnd_f (I : Nat → Nat → Int32) (j : Nat) {k : Nat} (h : k ≠ 10 ∧ k ≠ 13 ∧ k ≠ 14) : rEnd I j k = I k := by
  show up2 (up2 (up2 I 10 j 0) 13 j 0) 14 j 0 k = I k
  rw [up2_f _ _ _ h.2.2, up2_f _ _ _ h.2.1, up2_f _ _ _ h.1]
set_option maxHeartbeats 4000000 in
set_option maxRecDepth 100000 in
theorem c_Mod_event (l : Launch) (g : mm_G) {M0 : mm_M} {q : Nat} {ad : Nat → Nat} {I : Nat → Nat → Int32} {L : Nat → Nat → Int64} {S : Nat → Int32} {ck : Int64} (h0 : Rs g M0 q ad I L S ck) (i st pl sv : Int32) (t : Int64) {nr f : Nat} {cn bg wi : Nat → Nat} (hn : S 1 = nI nr) (hn4 : nr ≤ 40) (hf : S 24 = nI f) (hf4 : f ≤ 40) (h4 : ∀ k, 1 ≤ k → k ≤ nr → (¬ ∃ z, z < f ∧ I 25 z = nI k) → f < 40) (hc : ∀ v, v ≤ 4 → I 22 v = nI (cn v) ∧ cn v < 4200) (hbeg : ∀ p, p ≤ 49 → I 20 p = nI (bg p) ∧ bg p < 2 ^ 20) (hwi : ∀ k, 1 ≤ k → k ≤ nr → L 5 k = lN (wi k) ∧ wi k ≤ 10000000) (hL9 : ∀ j, j < 200 → ¬ I 7 j < 0 → 0 ≤ L 9 j) : Ci l g y_Mod_event b_Mod_event 8 .int (rk 2 48 0 0) M0 [.ref q, .int i, .int st, .int pl, .int sv, .long t] (fun r M' => ((¬ ∃ j p, j ≤ 199 ∧ p ≤ 49 ∧ i = nI j ∧ pl = nI p) ∧ r = (-101) ∧ Rq g M0 M' q ad I L (va_up S 0 0) ck) ∨ ∃ j p, j ≤ 199 ∧ p ≤ 49 ∧ i = nI j ∧ pl = nI p ∧ ((¬ ((∃ a v, a ≤ 9 ∧ v ≤ 4 ∧ st = nI a ∧ sv = nI v) ∧ rTime I L j t) ∧ r = (-102) ∧ Rq g M0 M' q ad I L (va_up S 0 0) ck) ∨ ∃ a v tt, a ≤ 9 ∧ v ≤ 4 ∧ tt ≤ 1000000000 ∧ st = nI a ∧ sv = nI v ∧ t = lN tt ∧ rTime I L j t ∧ ((a = 9 ∧ r = 0 ∧ Rq g M0 M' q ad (up2 (up2 (up2 (rEnd I j) 23 (4200 * v + cn v) (evD I L j (lN tt))) 22 v (nI (cn v + 1))) 7 j (-1)) (evL I L j (lN tt)) (va_up S 0 0) ck) ∨ (¬ a = 9 ∧ ∃ k, k ≤ nr ∧ rowFirst I nr (nI a) (nI p) (nI v) k ∧ ((k = 0 ∧ r = 0 ∧ Rq g M0 M' q ad (up2 (rEnd I j) 7 j (nI a)) (evL I L j (lN tt)) (va_up S 0 0) ck) ∨ (1 ≤ k ∧ ¬ I 6 k = 0 ∧ r = - nI k ∧ (((∃ z, z < f ∧ I 25 z = nI k) ∧ Rq g M0 M' q ad (up2 (rEnd I j) 7 j (nI a)) (evL I L j (lN tt)) (va_up S 0 0) ck) ∨ ((¬ ∃ z, z < f ∧ I 25 z = nI k) ∧ Rq g M0 M' q ad (up2 (up2 (rEnd I j) 7 j (nI a)) 25 f (nI k)) (evL I L j (lN tt)) (va_up (va_up S 0 0) 24 (nI (f + 1))) ck))) ∨ (1 ≤ k ∧ I 6 k = 0 ∧ r = nI k ∧ Rq g M0 M' q ad (up2 (up2 (up2 (up2 (rEnd I j) 7 j (nI a)) 10 j (nI k)) 11 j (nI p)) 20 p (nI (bg p + 1))) (up2 (evL I L j (lN tt)) 12 j (lN (bh (I 15) (wi k + 20002) tt (wi k)))) (va_up S 0 0) ck)))))) := by
  refine mm_enter (by decide) (Nat.le_of_ble_eq_true rfl) (fun pG eV s m args below meth cdx ls Q E hml hr hlk hnm hZ hl eQ => ?_)
  have hx := E.1
  have hb := E.2.1
  have hl : lv_has ls 8 [(0, .ref q), (1, .int i), (2, .int st), (3, .int pl), (4, .int sv), (5, .long t)] := hl
  have hR := h0.q
  refine lv_aload_n hx hb d_Mod_event_0 rfl (lv_at hl 0 rfl) ?_
  refine lv_iconst (v := 0) hx hb d_Mod_event_1 (by decide) ?_
  refine rr_put0 E hZ hR fl_Mod_72 d_Mod_event_2 (fun M H locs hZ hR => ?_)
  refine lv_iload_n hx hb d_Mod_event_5 rfl (lv_at hl 1 rfl) ?_
  refine lv_i2l hx hb d_Mod_event_6 rfl ?_
  refine lv_lconst (v := 0) hx hb d_Mod_event_7 (by decide) ?_
  refine lv_ldc2 (v := 199) hx hb E.2.2.1 (E.2.2.2.1 _ w_709) d_Mod_event_8 ?_
  refine mm_calli (mm_runS (As := [.long i.toInt64, .long 0, .long 199]) (rest := []) E hZ hml hl.1 lk_Mod_78 me_Mod_isIn st_Mod_isIn (c_Mod_isIn l g _ i.toInt64 0 199) ⟨Nat.le_of_ble_eq_true rfl, Nat.le_of_ble_eq_true rfl⟩ rfl (Nat.le_of_ble_eq_true rfl) d_Mod_event_11 ⟨Nat.le_of_ble_eq_true rfl, Nat.le_of_ble_eq_true rfl⟩) hZ (fun r1 M1 H locs hp hZ => ?_)
  rw [hp.1] at hZ
  replace hp := hp.2
  have hp1 := hp
  clear hp
  refine lv_if_eq (tgt := 29) hx hb d_Mod_event_14 (by decide) (fun c14 => ?_) (fun c14 => ?_)
  · refine lv_bipush (v := (-101)) hx hb d_Mod_event_29 (by decide) ?_
    exact mm_iret (v := (-101)) E hr hlk eQ hZ d_Mod_event_31 ⟨_, rfl, Or.inl ⟨fun ⟨j, p, hj, _, e, _⟩ => out_nat (n := 199) (by decide) (by decide) (b32_eq0.mp (hp1 ▸ c14)) j hj e, rfl, hR⟩⟩
  · refine lv_iload_n hx hb d_Mod_event_17 rfl (lv_at hl 3 rfl) ?_
    refine lv_i2l hx hb d_Mod_event_18 rfl ?_
    refine lv_lconst (v := 0) hx hb d_Mod_event_19 (by decide) ?_
    refine lv_ldc2 (v := 49) hx hb E.2.2.1 (E.2.2.2.1 _ w_702) d_Mod_event_20 ?_
    refine mm_calli (mm_runS (As := [.long pl.toInt64, .long 0, .long 49]) (rest := []) E hZ hml hl.1 lk_Mod_78 me_Mod_isIn st_Mod_isIn (c_Mod_isIn l g _ pl.toInt64 0 49) ⟨Nat.le_of_ble_eq_true rfl, Nat.le_of_ble_eq_true rfl⟩ rfl (Nat.le_of_ble_eq_true rfl) d_Mod_event_23 ⟨Nat.le_of_ble_eq_true rfl, Nat.le_of_ble_eq_true rfl⟩) hZ (fun r2 M1 H locs hp hZ => ?_)
    rw [hp.1] at hZ
    replace hp := hp.2
    have hp2 := hp
    clear hp
    refine lv_if_ne (tgt := 32) hx hb d_Mod_event_26 (by decide) (fun c26 => ?_) (fun c26 => ?_)
    · obtain ⟨j, hj, rfl⟩ := in_nat (n := 199) rfl (by decide) (b32_ne0 (hp1 ▸ c14))
      obtain ⟨p5, hp5, rfl⟩ := in_nat (n := 49) rfl (by decide) (b32_ne0 (hp2 ▸ c26))
      refine lv_iload_n hx hb d_Mod_event_32 rfl (lv_at hl 2 rfl) ?_
      refine lv_i2l hx hb d_Mod_event_33 rfl ?_
      refine lv_lconst (v := 0) hx hb d_Mod_event_34 (by decide) ?_
      refine lv_ldc2 (v := 9) hx hb E.2.2.1 (E.2.2.2.1 _ w_710) d_Mod_event_35 ?_
      refine mm_calli (mm_runS (As := [.long st.toInt64, .long 0, .long 9]) (rest := []) E hZ hml hl.1 lk_Mod_78 me_Mod_isIn st_Mod_isIn (c_Mod_isIn l g _ st.toInt64 0 9) ⟨Nat.le_of_ble_eq_true rfl, Nat.le_of_ble_eq_true rfl⟩ rfl (Nat.le_of_ble_eq_true rfl) d_Mod_event_38 ⟨Nat.le_of_ble_eq_true rfl, Nat.le_of_ble_eq_true rfl⟩) hZ (fun r3 M1 H locs hp hZ => ?_)
      rw [hp.1] at hZ
      replace hp := hp.2
      have hp3 := hp
      clear hp
      refine lv_if_eq (tgt := 67) hx hb d_Mod_event_41 (by decide) (fun c41 => ?_) (fun c41 => ?_)
      · refine lv_bipush (v := (-102)) hx hb d_Mod_event_67 (by decide) ?_
        exact mm_iret (v := (-102)) E hr hlk eQ hZ d_Mod_event_69 ⟨_, rfl, Or.inr ⟨j, p5, hj, hp5, rfl, rfl, Or.inl ⟨fun ⟨⟨a, v, ha, _, e, _⟩, _⟩ => out_nat (n := 9) (by decide) (by decide) (b32_eq0.mp (hp3 ▸ c41)) a ha e, rfl, hR⟩⟩⟩
      · refine lv_iload hx hb d_Mod_event_44 (lv_at hl 4 rfl) ?_
        refine lv_i2l hx hb d_Mod_event_46 rfl ?_
        refine lv_lconst (v := 0) hx hb d_Mod_event_47 (by decide) ?_
        refine lv_ldc2 (v := 4) hx hb E.2.2.1 (E.2.2.2.1 _ w_703) d_Mod_event_48 ?_
        refine mm_calli (mm_runS (As := [.long sv.toInt64, .long 0, .long 4]) (rest := []) E hZ hml hl.1 lk_Mod_78 me_Mod_isIn st_Mod_isIn (c_Mod_isIn l g _ sv.toInt64 0 4) ⟨Nat.le_of_ble_eq_true rfl, Nat.le_of_ble_eq_true rfl⟩ rfl (Nat.le_of_ble_eq_true rfl) d_Mod_event_51 ⟨Nat.le_of_ble_eq_true rfl, Nat.le_of_ble_eq_true rfl⟩) hZ (fun r4 M1 H locs hp hZ => ?_)
        rw [hp.1] at hZ
        replace hp := hp.2
        have hp4 := hp
        clear hp
        refine lv_if_eq (tgt := 67) hx hb d_Mod_event_54 (by decide) (fun c54 => ?_) (fun c54 => ?_)
        · refine lv_bipush (v := (-102)) hx hb d_Mod_event_67 (by decide) ?_
          exact mm_iret (v := (-102)) E hr hlk eQ hZ d_Mod_event_69 ⟨_, rfl, Or.inr ⟨j, p5, hj, hp5, rfl, rfl, Or.inl ⟨fun ⟨⟨a, v, _, hv, _, e⟩, _⟩ => out_nat (n := 4) (by decide) (by decide) (b32_eq0.mp (hp4 ▸ c54)) v hv e, rfl, hR⟩⟩⟩
        · refine lv_aload_n hx hb d_Mod_event_57 rfl (lv_at hl 0 rfl) ?_
          refine lv_iload_n hx hb d_Mod_event_58 rfl (lv_at hl 1 rfl) ?_
          refine lv_lload hx hb d_Mod_event_59 (lv_at hl 5 rfl) ?_
          refine mm_calli (mm_runV (As := [.int (nI j), .long t]) (rest := []) E hZ hml hl.1 lk_Mod_106 me_Mod_isTime in_Mod_isTime (c_Mod_isTime l g hR.1 (i := j) (by omega) t) hR.1.1 cl_Mod.1 ⟨Nat.le_of_ble_eq_true rfl, Nat.le_of_ble_eq_true rfl⟩ rfl (Nat.le_of_ble_eq_true rfl) d_Mod_event_61 ⟨Nat.le_of_ble_eq_true rfl, Nat.le_of_ble_eq_true rfl⟩) hZ (fun r5 M1 H locs hp hZ => ?_)
          rw [hp.1] at hZ
          replace hp := hp.2
          have hp6 := hp
          clear hp
          refine lv_if_ne (tgt := 70) hx hb d_Mod_event_64 (by decide) (fun c64 => ?_) (fun c64 => ?_)
          · have hT : rTime I L j t := b32_ne0 (hp6 ▸ c64)
            obtain ⟨a, ha, rfl⟩ := in_nat (n := 9) rfl (by decide) (b32_ne0 (hp3 ▸ c41))
            obtain ⟨v, hv, rfl⟩ := in_nat (n := 4) rfl (by decide) (b32_ne0 (hp4 ▸ c54))
            obtain ⟨tt, htt, rfl⟩ := lin_nat (n := 1000000000) (by decide) (show (0 : Int64) ≤ t ∧ t ≤ 1000000000 from ⟨by
              by_cases h7 : I 7 j < 0
              · have := hT.1; rw [if_pos h7] at this; exact this
              · have := hT.1; rw [if_neg h7] at this; exact Int64.le_trans (hL9 j (by omega) h7) this, hT.2⟩)
            obtain ⟨hcn, hcn5⟩ := hc v hv
            obtain ⟨hbg, hbg5⟩ := hbeg p5 hp5
            refine lv_aload_n hx hb d_Mod_event_70 rfl (lv_at hl 0 rfl) ?_
            refine mm_get (v := .ref (ad 8)) E hZ cl_Mod fl_Mod_30 (by decide) hR.1.1 rfl d_Mod_event_71 ?_
            refine lv_iload_n hx hb d_Mod_event_74 rfl (lv_at hl 1 rfl) ?_
            refine lv_aload_n hx hb d_Mod_event_75 rfl (lv_at hl 0 rfl) ?_
            refine mm_get (v := .ref (ad 7)) E hZ cl_Mod fl_Mod_27 (by decide) hR.1.1 rfl d_Mod_event_76 ?_
            refine lv_iload_n hx hb d_Mod_event_79 rfl (lv_at hl 1 rfl) ?_
            refine rr_iald 7 rfl rfl E hZ hR rfl (show j < 200 by omega) d_Mod_event_80 ?_
            have J95 : ∀ (v95 : Int64) (H : Heap) (locs : List Loc) (ls : Array Slot), mm_S g s M H locs → v95 = (if I 7 j < 0 then lN tt else L 8 j) → lv_has ls 8 [(0, .ref q), (1, .int (nI j)), (2, .int (nI a)), (3, .int (nI p5)), (4, .int (nI v)), (5, .long (lN tt))] → W pG l eV (rk 2 48 0 0) s m args below meth cdx H locs 0 0 Q (F0 m 95 ls [.long v95, .int (nI j), .ref (ad 8)]) := by
              intro v95 H locs ls hZ hv95 hl
              subst hv95
              refine rr_last 8 rfl E hZ hR rfl (show j < 200 by omega) d_Mod_event_95 (fun M H locs hZ hR => ?_)
              refine lv_aload_n hx hb d_Mod_event_96 rfl (lv_at hl 0 rfl) ?_
              refine mm_get (v := .ref (ad 9)) E hZ cl_Mod fl_Mod_33 (by decide) hR.1.1 rfl d_Mod_event_97 ?_
              refine lv_iload_n hx hb d_Mod_event_100 rfl (lv_at hl 1 rfl) ?_
              refine lv_lload hx hb d_Mod_event_101 (lv_at hl 5 rfl) ?_
              refine rr_last 9 rfl E hZ hR rfl (show j < 200 by omega) d_Mod_event_103 (fun M H locs hZ hR => ?_)
              refine lv_aload_n hx hb d_Mod_event_104 rfl (lv_at hl 0 rfl) ?_
              refine lv_iload_n hx hb d_Mod_event_105 rfl (lv_at hl 1 rfl) ?_
              refine mm_callv (mm_runV (As := [.int (nI j)]) (rest := []) E hZ hml hl.1 lk_Mod_110 me_Mod_end in_Mod_end (c_Mod_end l g hR.1 (i := j) (by omega)) hR.1.1 cl_Mod.1 ⟨Nat.le_of_ble_eq_true rfl, Nat.le_of_ble_eq_true rfl⟩ rfl (Nat.le_of_ble_eq_true rfl) d_Mod_event_106 ⟨Nat.le_of_ble_eq_true rfl, Nat.le_of_ble_eq_true rfl⟩) hZ (fun M1 H locs hp hZ => ?_)
              replace hR := hR.step hp
              generalize M1 = M at hZ hR
              replace hR : Rq g M0 M q ad (rEnd I j) (evL I L j (lN tt)) (va_up S 0 0) ck := hR
              refine lv_iload_n hx hb d_Mod_event_109 rfl (lv_at hl 2 rfl) ?_
              refine lv_bipush (v := 9) hx hb d_Mod_event_110 (by decide) ?_
              refine lv_icmp_ne (tgt := 168) hx hb d_Mod_event_112 (by decide) (fun c112 => ?_) (fun c112 => ?_)
              · have ha9 : ¬ a = 9 := fun z => c112 (by rw [z]; rfl)
                refine lv_aload_n hx hb d_Mod_event_168 rfl (lv_at hl 0 rfl) ?_
                refine mm_get (v := .ref (ad 7)) E hZ cl_Mod fl_Mod_27 (by decide) hR.1.1 rfl d_Mod_event_169 ?_
                refine lv_iload_n hx hb d_Mod_event_172 rfl (lv_at hl 1 rfl) ?_
                refine lv_iload_n hx hb d_Mod_event_173 rfl (lv_at hl 2 rfl) ?_
                refine rr_iast 7 rfl rfl E hZ hR rfl (show j < 200 by omega) d_Mod_event_174 (fun M H locs hZ hR => ?_)
                refine lv_aload_n hx hb d_Mod_event_175 rfl (lv_at hl 0 rfl) ?_
                refine lv_iload_n hx hb d_Mod_event_176 rfl (lv_at hl 2 rfl) ?_
                refine lv_iload_n hx hb d_Mod_event_177 rfl (lv_at hl 3 rfl) ?_
                refine lv_iload hx hb d_Mod_event_178 (lv_at hl 4 rfl) ?_
                have e7 : ∀ k, k ≠ 7 ∧ k ≠ 10 ∧ k ≠ 13 ∧ k ≠ 14 → (up2 (rEnd I j) 7 j (nI a)) k = I k := fun k hk => by rw [up2_f _ _ _ hk.1]; exact rEnd_f I j hk.2
                refine mm_calli (mm_runV (As := [.int (nI a), .int (nI p5), .int (nI v)]) (rest := []) E hZ hml hl.1 lk_Mod_114 me_Mod_rowFor in_Mod_rowFor (c_Mod_rowFor l g hR.1 (nI a) (nI p5) (nI v) (nr := nr) (by rw [va_up_ne _ _ (by decide)]; exact hn) hn4) hR.1.1 cl_Mod.1 ⟨Nat.le_of_ble_eq_true rfl, Nat.le_of_ble_eq_true rfl⟩ rfl (Nat.le_of_ble_eq_true rfl) d_Mod_event_180 ⟨Nat.le_of_ble_eq_true rfl, Nat.le_of_ble_eq_true rfl⟩) hZ (fun rr M1 H locs hp hZ => ?_)
                rw [hp.1] at hZ
                replace hp := hp.2
                obtain ⟨k, hk, hrk, hF⟩ := hp
                subst hrk
                replace hF : rowFirst I nr (nI a) (nI p5) (nI v) k := rowFirst_of (e7 2 (by decide)) (e7 3 (by decide)) (e7 4 (by decide)) hF
                refine lv_istore (lv' := [(7, .int (nI k)), (0, .ref q), (1, .int (nI j)), (2, .int (nI a)), (3, .int (nI p5)), (4, .int (nI v)), (5, .long (lN tt))]) hx hb d_Mod_event_183 hl (by decide) rfl (fun ls hl => ?_)
                refine lv_iload hx hb d_Mod_event_185 (lv_at hl 0 rfl) ?_
                refine lv_if_le (tgt := 210) hx hb d_Mod_event_187 (by decide) (fun c187 => ?_) (fun c187 => ?_)
                · have hk0 : k = 0 := by
                    rcases Nat.eq_zero_or_pos k with z | z
                    · exact z
                    · exact absurd c187 (nI_nle z (by omega))
                  refine lv_iload hx hb d_Mod_event_210 (lv_at hl 0 rfl) ?_
                  refine lv_if_le (tgt := 259) hx hb d_Mod_event_212 (by decide) (fun c212 => ?_) (fun c212 => ?_)
                  · refine lv_iload hx hb d_Mod_event_259 (lv_at hl 0 rfl) ?_
                    exact mm_iret (v := nI k) E hr hlk eQ hZ d_Mod_event_261 ⟨_, rfl, Or.inr ⟨j, p5, hj, hp5, rfl, rfl, Or.inr ⟨a, v, tt, ha, hv, htt, rfl, rfl, rfl, hT, Or.inr ⟨ha9, k, hk, hF, Or.inl ⟨hk0, by rw [hk0]; rfl, hR⟩⟩⟩⟩⟩
                  · exact absurd c187 c212
                · have hk1 : 1 ≤ k := by
                    rcases Nat.eq_zero_or_pos k with z | z
                    · exact absurd (show nI k ≤ 0 by rw [z]; decide) c187
                    · exact z
                  refine lv_aload_n hx hb d_Mod_event_190 rfl (lv_at hl 1 rfl) ?_
                  refine mm_get (v := .ref (ad 6)) E hZ cl_Mod fl_Mod_23 (by decide) hR.1.1 rfl d_Mod_event_191 ?_
                  refine lv_iload hx hb d_Mod_event_194 (lv_at hl 0 rfl) ?_
                  refine rr_zald 6 rfl rfl E hZ hR rfl (show k < 41 by omega) d_Mod_event_196 ?_
                  refine lv_if_eq (tgt := 210) hx hb d_Mod_event_197 (by decide) (fun c197 => ?_) (fun c197 => ?_)
                  · rw [e7 6 (by decide)] at c197
                    refine lv_iload hx hb d_Mod_event_210 (lv_at hl 0 rfl) ?_
                    refine lv_if_le (tgt := 259) hx hb d_Mod_event_212 (by decide) (fun c212 => ?_) (fun c212 => ?_)
                    · exact absurd c212 c187
                    · obtain ⟨hwk, hw7⟩ := hwi k hk1 hk
                      refine lv_aload_n hx hb d_Mod_event_215 rfl (lv_at hl 1 rfl) ?_
                      refine mm_get (v := .ref (ad 10)) E hZ cl_Mod fl_Mod_36 (by decide) hR.1.1 rfl d_Mod_event_216 ?_
                      refine lv_iload_n hx hb d_Mod_event_219 rfl (lv_at hl 2 rfl) ?_
                      refine lv_iload hx hb d_Mod_event_220 (lv_at hl 0 rfl) ?_
                      refine rr_iast 10 rfl rfl E hZ hR rfl (show j < 200 by omega) d_Mod_event_222 (fun M H locs hZ hR => ?_)
                      refine lv_aload_n hx hb d_Mod_event_223 rfl (lv_at hl 1 rfl) ?_
                      refine mm_get (v := .ref (ad 11)) E hZ cl_Mod fl_Mod_39 (by decide) hR.1.1 rfl d_Mod_event_224 ?_
                      refine lv_iload_n hx hb d_Mod_event_227 rfl (lv_at hl 2 rfl) ?_
                      refine lv_iload_n hx hb d_Mod_event_228 rfl (lv_at hl 4 rfl) ?_
                      refine rr_iast 11 rfl rfl E hZ hR rfl (show j < 200 by omega) d_Mod_event_229 (fun M H locs hZ hR => ?_)
                      refine lv_aload_n hx hb d_Mod_event_230 rfl (lv_at hl 1 rfl) ?_
                      refine mm_get (v := .ref (ad 12)) E hZ cl_Mod fl_Mod_42 (by decide) hR.1.1 rfl d_Mod_event_231 ?_
                      refine lv_iload_n hx hb d_Mod_event_234 rfl (lv_at hl 2 rfl) ?_
                      refine lv_aload_n hx hb d_Mod_event_235 rfl (lv_at hl 1 rfl) ?_
                      refine lv_lload hx hb d_Mod_event_236 (lv_at hl 6 rfl) ?_
                      refine lv_aload_n hx hb d_Mod_event_238 rfl (lv_at hl 1 rfl) ?_
                      refine mm_get (v := .ref (ad 5)) E hZ cl_Mod fl_Mod_19 (by decide) hR.1.1 rfl d_Mod_event_239 ?_
                      refine lv_iload hx hb d_Mod_event_242 (lv_at hl 0 rfl) ?_
                      refine rr_lald 5 rfl E hZ hR rfl (show k < 41 by omega) d_Mod_event_244 ?_
                      rw [show evL I L j (lN tt) 5 k = lN (wi k) from (congrFun (evL_f I L j (lN tt) (by decide)) k).trans hwk]
                      refine mm_calll (mm_runV (As := [.long (lN tt), .long (lN (wi k))]) (rest := [.int (nI j), .ref (ad 12)]) E hZ hml hl.1 lk_Mod_121 me_Mod_behind in_Mod_behind (c_Mod_behind l g hR.1 (t0 := tt) (w0 := wi k) htt hw7) hR.1.1 cl_Mod.1 ⟨Nat.le_of_ble_eq_true rfl, Nat.le_of_ble_eq_true rfl⟩ rfl (Nat.le_of_ble_eq_true rfl) d_Mod_event_245 ⟨Nat.le_of_ble_eq_true rfl, Nat.le_of_ble_eq_true rfl⟩) hZ (fun du M1 H locs hp hZ => ?_)
                      rw [hp.1] at hZ
                      replace hp := hp.2
                      rw [show (up2 (up2 (up2 (rEnd I j) 7 j (nI a)) 10 j (nI k)) 11 j (nI p5)) 15 = I 15 by rw [up2_f _ _ _ (by decide), up2_f _ _ _ (by decide)]; exact e7 15 (by decide)] at hp
                      subst hp
                      refine rr_last 12 rfl E hZ hR rfl (show j < 200 by omega) d_Mod_event_248 (fun M H locs hZ hR => ?_)
                      refine lv_aload_n hx hb d_Mod_event_249 rfl (lv_at hl 1 rfl) ?_
                      refine mm_get (v := .ref (ad 20)) E hZ cl_Mod fl_Mod_57 (by decide) hR.1.1 rfl d_Mod_event_250 ?_
                      refine lv_iload_n hx hb d_Mod_event_253 rfl (lv_at hl 4 rfl) ?_
                      refine lv_dup2_11 hx hb d_Mod_event_254 rfl rfl ?_
                      refine rr_iald 20 rfl rfl E hZ hR rfl (show p5 < 50 by omega) d_Mod_event_255 ?_
                      rw [show (up2 (up2 (up2 (rEnd I j) 7 j (nI a)) 10 j (nI k)) 11 j (nI p5)) 20 p5 = nI (bg p5) by rw [up2_f _ _ _ (by decide), up2_f _ _ _ (by decide), e7 20 (by decide)]; exact hbg]
                      refine lv_iconst (v := 1) hx hb d_Mod_event_256 (by decide) ?_
                      refine lv_iadd hx hb d_Mod_event_257 ?_
                      refine rr_iast 20 rfl rfl E hZ hR rfl (show p5 < 50 by omega) d_Mod_event_258 (fun M H locs hZ hR => ?_)
                      refine lv_iload hx hb d_Mod_event_259 (lv_at hl 0 rfl) ?_
                      exact mm_iret (v := nI k) E hr hlk eQ hZ d_Mod_event_261 ⟨_, rfl, Or.inr ⟨j, p5, hj, hp5, rfl, rfl, Or.inr ⟨a, v, tt, ha, hv, htt, rfl, rfl, rfl, hT, Or.inr ⟨ha9, k, hk, hF, Or.inr (Or.inr ⟨hk1, c197, rfl, by rw [nI_1] at hR; exact hR⟩)⟩⟩⟩⟩
                  · rw [e7 6 (by decide)] at c197
                    refine lv_aload_n hx hb d_Mod_event_200 rfl (lv_at hl 1 rfl) ?_
                    refine lv_iload hx hb d_Mod_event_201 (lv_at hl 0 rfl) ?_
                    refine mm_callv (mm_runV (As := [.int (nI k)]) (rest := []) E hZ hml hl.1 lk_Mod_118 me_Mod_fails in_Mod_fails (c_Mod_fails l g hR.1 (nI k) (f := f) (by rw [va_up_ne _ _ (by decide)]; exact hf) hf4 (by rw [e7 25 (by decide)]; exact h4 k hk1 hk)) hR.1.1 cl_Mod.1 ⟨Nat.le_of_ble_eq_true rfl, Nat.le_of_ble_eq_true rfl⟩ rfl (Nat.le_of_ble_eq_true rfl) d_Mod_event_203 ⟨Nat.le_of_ble_eq_true rfl, Nat.le_of_ble_eq_true rfl⟩) hZ (fun M1 H locs hp hZ => ?_)
                    rw [e7 25 (by decide)] at hp
                    replace hp : ((∃ z, z < f ∧ I 25 z = nI k) ∧ Rq g M0 M1 q ad (up2 (rEnd I j) 7 j (nI a)) (evL I L j (lN tt)) (va_up S 0 0) ck) ∨ ((¬ ∃ z, z < f ∧ I 25 z = nI k) ∧ Rq g M0 M1 q ad (up2 (up2 (rEnd I j) 7 j (nI a)) 25 f (nI k)) (evL I L j (lN tt)) (va_up (va_up S 0 0) 24 (nI (f + 1))) ck) := hp.imp (fun z => ⟨z.1, hR.step z.2⟩) (fun z => ⟨z.1, hR.step z.2⟩)
                    clear hR
                    generalize M1 = M at hZ hp
                    refine lv_iload hx hb d_Mod_event_206 (lv_at hl 0 rfl) ?_
                    refine lv_ineg hx hb d_Mod_event_208 ?_
                    exact mm_iret (v := -(nI k)) E hr hlk eQ hZ d_Mod_event_209 ⟨_, rfl, Or.inr ⟨j, p5, hj, hp5, rfl, rfl, Or.inr ⟨a, v, tt, ha, hv, htt, rfl, rfl, rfl, hT, Or.inr ⟨ha9, k, hk, hF, Or.inr (Or.inl ⟨hk1, c197, rfl, hp⟩)⟩⟩⟩⟩
              · have ha9 : a = 9 := (nI_eq (by omega) (by decide)).mp (show nI a = nI 9 from c112)
                refine lv_aload_n hx hb d_Mod_event_115 rfl (lv_at hl 0 rfl) ?_
                refine mm_get (v := .ref (ad 23)) E hZ cl_Mod fl_Mod_66 (by decide) hR.1.1 rfl d_Mod_event_116 ?_
                refine lv_sipush (v := 4200) hx hb d_Mod_event_119 (by decide) ?_
                refine lv_iload hx hb d_Mod_event_122 (lv_at hl 4 rfl) ?_
                refine lv_imul hx hb d_Mod_event_124 ?_
                refine lv_aload_n hx hb d_Mod_event_125 rfl (lv_at hl 0 rfl) ?_
                refine mm_get (v := .ref (ad 22)) E hZ cl_Mod fl_Mod_63 (by decide) hR.1.1 rfl d_Mod_event_126 ?_
                refine lv_iload hx hb d_Mod_event_129 (lv_at hl 4 rfl) ?_
                refine rr_iald 22 rfl rfl E hZ hR rfl (show v < 5 by omega) d_Mod_event_131 ?_
                rw [show rEnd I j 22 v = nI (cn v) by rw [rEnd_f I j (by decide)]; exact hcn]
                refine lv_iadd hx hb d_Mod_event_132 ?_
                refine lv_lload hx hb d_Mod_event_133 (lv_at hl 5 rfl) ?_
                refine lv_aload_n hx hb d_Mod_event_135 rfl (lv_at hl 0 rfl) ?_
                refine mm_get (v := .ref (ad 8)) E hZ cl_Mod fl_Mod_30 (by decide) hR.1.1 rfl d_Mod_event_136 ?_
                refine lv_iload_n hx hb d_Mod_event_139 rfl (lv_at hl 1 rfl) ?_
                refine rr_lald 8 rfl E hZ hR rfl (show j < 200 by omega) d_Mod_event_140 ?_
                refine lv_lsub hx hb d_Mod_event_141 ?_
                refine lv_ldc2 (v := 86400) hx hb E.2.2.1 (E.2.2.2.1 _ w_720) d_Mod_event_142 ?_
                refine lv_ldiv hx hb d_Mod_event_145 (by decide) ?_
                refine lv_l2i hx hb d_Mod_event_146 rfl ?_
                refine rr_iast 23 rfl rfl E hZ hR (nI_42 v (cn v)) (show (4200 * v + cn v) < 21000 by omega) d_Mod_event_147 (fun M H locs hZ hR => ?_)
                refine lv_aload_n hx hb d_Mod_event_148 rfl (lv_at hl 0 rfl) ?_
                refine mm_get (v := .ref (ad 22)) E hZ cl_Mod fl_Mod_63 (by decide) hR.1.1 rfl d_Mod_event_149 ?_
                refine lv_iload hx hb d_Mod_event_152 (lv_at hl 4 rfl) ?_
                refine lv_dup2_11 hx hb d_Mod_event_154 rfl rfl ?_
                refine rr_iald 22 rfl rfl E hZ hR rfl (show v < 5 by omega) d_Mod_event_155 ?_
                rw [show up2 (rEnd I j) 23 (4200 * v + cn v) (evD I L j (lN tt)) 22 v = nI (cn v) by rw [up2_f _ _ _ (by decide), rEnd_f I j (by decide)]; exact hcn]
                refine lv_iconst (v := 1) hx hb d_Mod_event_156 (by decide) ?_
                refine lv_iadd hx hb d_Mod_event_157 ?_
                refine rr_iast 22 rfl rfl E hZ hR rfl (show v < 5 by omega) d_Mod_event_158 (fun M H locs hZ hR => ?_)
                refine lv_aload_n hx hb d_Mod_event_159 rfl (lv_at hl 0 rfl) ?_
                refine mm_get (v := .ref (ad 7)) E hZ cl_Mod fl_Mod_27 (by decide) hR.1.1 rfl d_Mod_event_160 ?_
                refine lv_iload_n hx hb d_Mod_event_163 rfl (lv_at hl 1 rfl) ?_
                refine lv_iconst (v := (-1)) hx hb d_Mod_event_164 (by decide) ?_
                refine rr_iast 7 rfl rfl E hZ hR rfl (show j < 200 by omega) d_Mod_event_165 (fun M H locs hZ hR => ?_)
                refine lv_iconst (v := 0) hx hb d_Mod_event_166 (by decide) ?_
                exact mm_iret (v := 0) E hr hlk eQ hZ d_Mod_event_167 ⟨_, rfl, Or.inr ⟨j, p5, hj, hp5, rfl, rfl, Or.inr ⟨a, v, tt, ha, hv, htt, rfl, rfl, rfl, hT, Or.inl ⟨ha9, rfl, by rw [nI_1] at hR; exact hR⟩⟩⟩⟩
            refine lv_if_ge (tgt := 89) hx hb d_Mod_event_81 (by decide) (fun c81 => ?_) (fun c81 => ?_)
            · refine lv_aload_n hx hb d_Mod_event_89 rfl (lv_at hl 0 rfl) ?_
              refine mm_get (v := .ref (ad 8)) E hZ cl_Mod fl_Mod_30 (by decide) hR.1.1 rfl d_Mod_event_90 ?_
              refine lv_iload_n hx hb d_Mod_event_93 rfl (lv_at hl 1 rfl) ?_
              refine rr_lald 8 rfl E hZ hR rfl (show j < 200 by omega) d_Mod_event_94 ?_
              exact J95 _ H locs ls hZ (if_neg (Int32.not_lt.mpr c81)).symm hl
            · refine lv_lload hx hb d_Mod_event_84 (lv_at hl 5 rfl) ?_
              refine lv_goto (tgt := 95) hx hb d_Mod_event_86 (by decide) ?_
              exact J95 _ H locs ls hZ (if_pos (Int32.not_le.mp c81)).symm hl
          · refine lv_bipush (v := (-102)) hx hb d_Mod_event_67 (by decide) ?_
            exact mm_iret (v := (-102)) E hr hlk eQ hZ d_Mod_event_69 ⟨_, rfl, Or.inr ⟨j, p5, hj, hp5, rfl, rfl, Or.inl ⟨fun z => b32_eq0.mp (hp6 ▸ c64) z.2, rfl, hR⟩⟩⟩
    · refine lv_bipush (v := (-101)) hx hb d_Mod_event_29 (by decide) ?_
      exact mm_iret (v := (-101)) E hr hlk eQ hZ d_Mod_event_31 ⟨_, rfl, Or.inl ⟨fun ⟨j, p, _, hp5, _, e⟩ => out_nat (n := 49) (by decide) (by decide) (b32_eq0.mp (hp2 ▸ c26)) p hp5 e, rfl, hR⟩⟩
