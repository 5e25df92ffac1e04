/-! THE REFERENCE: behind -/
set_option maxHeartbeats 4000000 in
set_option maxRecDepth 100000 in
theorem c_Mod_behind (l : Launch) (g : mm_G) {M : mm_M} {q : Nat} {ad : Nat → Nat} {I : Nat → Nat → Int32} {L : Nat → Nat → Int64} {S : Nat → Int32} {ck : Int64} (h0 : Rs g M q ad I L S ck) {t0 w0 : Nat} (ht0 : t0 ≤ 1000000000) (hw0 : w0 ≤ 10000000) : Cl l g y_Mod_behind b_Mod_behind 15 (rk 0 0 0 0) M [.ref q, .long (lN t0), .long (lN w0)] (fun r M' => M' = M ∧ r = lN (bh (I 15) (w0 + 20002) t0 w0)) := by
  refine mm_enter (by decide) (Nat.le_of_ble_eq_true rfl) (fun pG eV s m args below meth cdx ls Q E hml hr hlk hnm hZ hl eQ => ?_)
  have hx := E.1
  have hb := E.2.1
  have hl : lv_has ls 15 [(0, .ref q), (1, .long (lN t0)), (3, .long (lN w0))] := hl
  have hR := h0.q
  refine lv_lload_n hx hb d_Mod_behind_0 rfl (lv_at hl 1 rfl) ?_
  refine lv_lstore (lv' := [(5, .long (lN t0)), (0, .ref q), (1, .long (lN t0)), (3, .long (lN w0))]) hx hb d_Mod_behind_1 hl (by decide) rfl (fun ls hl => ?_)
  refine lv_lload_n hx hb d_Mod_behind_3 rfl (lv_at hl 3 rfl) ?_
  refine lv_lstore (lv' := [(7, .long (lN w0)), (5, .long (lN t0)), (0, .ref q), (1, .long (lN t0)), (3, .long (lN w0))]) hx hb d_Mod_behind_4 hl (by decide) rfl (fun ls hl => ?_)
  have loop : ∀ (n : Nat) (t : Nat) (w : Nat) (ls : Array Slot), t + w ≤ 1738086400 → w ≤ 10000000 → bh (I 15) n t w = bh (I 15) (w0 + 20002) t0 w0 → (20001 - t / 86400) + w + 1 ≤ n → lv_has ls 15 [(0, .ref q), (5, .long (lN t)), (7, .long (lN w))] → W pG l eV (rk 0 0 0 0) s m args below meth cdx s.heap [] 0 0 Q (F0 m 6 ls []) := by
    intro n
    induction n with
    | zero => exact fun t w ls htw hw7 hX hfu _ => absurd hfu (by omega)
    | succ n ih =>
      intro t w ls htw hw7 hX hfu hl
      refine lv_lload hx hb d_Mod_behind_6 (lv_at hl 2 rfl) ?_
      refine lv_lconst (v := 0) hx hb d_Mod_behind_8 (by decide) ?_
      refine W.lcmp hx hb d_Mod_behind_9 ?_
      refine lv_if_le (tgt := 98) hx hb d_Mod_behind_10 (by decide) (fun c10 => ?_) (fun c10 => ?_)
      · have c10 := (lg_cmp_le _ _).mp c10
        have hw : w = 0 := by
          have := (pk_lLE (a := w) (b := 0) (by omega) (by omega)).mp c10
          omega
        rw [bh, if_pos hw] at hX
        refine lv_lload hx hb d_Mod_behind_98 (lv_at hl 1 rfl) ?_
        exact mm_lret (v := lN t) E hr hlk eQ hZ d_Mod_behind_100 ⟨_, rfl, rfl, by rw [hX]⟩
      · have c10 := mt (lg_cmp_le _ _).mpr c10
        have hw : ¬ w = 0 := fun z => c10 (by rw [z]; decide)
        rw [bh, if_neg hw] at hX
        refine lv_lload hx hb d_Mod_behind_13 (lv_at hl 1 rfl) ?_
        refine lv_ldc2 (v := 86400) hx hb E.2.2.1 (E.2.2.2.1 _ w_720) d_Mod_behind_15 ?_
        refine lv_ldiv hx hb d_Mod_behind_18 (by decide) ?_
        rw [lN_div864 (by omega)]
        refine lv_lstore (lv' := [(9, .long (lN (t / 86400))), (0, .ref q), (5, .long (lN t)), (7, .long (lN w))]) hx hb d_Mod_behind_19 hl (by decide) rfl (fun ls hl => ?_)
        refine lv_ldc2 (v := 86400) hx hb E.2.2.1 (E.2.2.2.1 _ w_720) d_Mod_behind_21 ?_
        refine lv_lload hx hb d_Mod_behind_24 (lv_at hl 0 rfl) ?_
        refine lv_lconst (v := 1) hx hb d_Mod_behind_26 (by decide) ?_
        refine lv_ladd hx hb d_Mod_behind_27 ?_
        refine lv_lmul hx hb d_Mod_behind_28 ?_
        refine lv_lload hx hb d_Mod_behind_29 (lv_at hl 2 rfl) ?_
        refine lv_lsub hx hb d_Mod_behind_31 ?_
        rw [lN_rest]
        refine lv_lstore (lv' := [(11, .long (lN (86400 * (t / 86400 + 1) - t))), (9, .long (lN (t / 86400))), (0, .ref q), (5, .long (lN t)), (7, .long (lN w))]) hx hb d_Mod_behind_32 hl (by decide) rfl (fun ls hl => ?_)
        refine lv_lload hx hb d_Mod_behind_34 (lv_at hl 1 rfl) ?_
        refine lv_ldc2 (v := 20000) hx hb E.2.2.1 (E.2.2.2.1 _ w_733) d_Mod_behind_36 ?_
        refine W.lcmp hx hb d_Mod_behind_39 ?_
        refine lv_if_gt (tgt := 64) hx hb d_Mod_behind_40 (by decide) (fun c40 => ?_) (fun c40 => ?_)
        · have c40 := (lg_cmp_gt _ _).mp c40
          rw [if_neg (fun z => absurd (show lN 20000 < lN (t / 86400) from c40) (fun y => absurd ((pk_lLT (by omega) (by omega)).mp y) (by omega)))] at hX
          refine lv_lload hx hb d_Mod_behind_64 (lv_at hl 0 rfl) ?_
          refine lv_lload hx hb d_Mod_behind_66 (lv_at hl 4 rfl) ?_
          refine W.lcmp hx hb d_Mod_behind_68 ?_
          refine lv_if_ge (tgt := 77) hx hb d_Mod_behind_69 (by decide) (fun c69 => ?_) (fun c69 => ?_)
          · have c69 := (lg_cmp_ge _ _).mp c69
            have hr2 : ¬ 86400 * (t / 86400 + 1) - t < w := fun z => by
              have := (pk_lLE (by omega) (by omega)).mp c69
              omega
            rw [if_neg hr2] at hX
            refine lv_lload hx hb d_Mod_behind_77 (lv_at hl 4 rfl) ?_
            refine lv_lstore (lv' := [(13, .long (lN w)), (11, .long (lN (86400 * (t / 86400 + 1) - t))), (9, .long (lN (t / 86400))), (0, .ref q), (5, .long (lN t)), (7, .long (lN w))]) hx hb d_Mod_behind_79 hl (by decide) rfl (fun ls hl => ?_)
            refine lv_lload hx hb d_Mod_behind_81 (lv_at hl 4 rfl) ?_
            refine lv_lload hx hb d_Mod_behind_83 (lv_at hl 0 rfl) ?_
            refine lv_ladd hx hb d_Mod_behind_85 ?_
            refine lv_lstore (lv' := [(5, .long ((lN t) + (lN w))), (13, .long (lN w)), (11, .long (lN (86400 * (t / 86400 + 1) - t))), (9, .long (lN (t / 86400))), (0, .ref q), (7, .long (lN w))]) hx hb d_Mod_behind_86 hl (by decide) rfl (fun ls hl => ?_)
            refine lv_lload hx hb d_Mod_behind_88 (lv_at hl 5 rfl) ?_
            refine lv_lload hx hb d_Mod_behind_90 (lv_at hl 1 rfl) ?_
            refine lv_lsub hx hb d_Mod_behind_92 ?_
            refine lv_lstore (lv' := [(7, .long ((lN w) - (lN w))), (5, .long ((lN t) + (lN w))), (13, .long (lN w)), (11, .long (lN (86400 * (t / 86400 + 1) - t))), (9, .long (lN (t / 86400))), (0, .ref q)]) hx hb d_Mod_behind_93 hl (by decide) rfl (fun ls hl => ?_)
            refine lv_goto (tgt := 6) hx hb d_Mod_behind_95 (by decide) ?_
            rw [lN_add, lN_sub (Nat.le_refl w), Nat.sub_self] at hl
            exact ih (t + w) 0 ls (by omega) (by omega) hX (by omega) (lv_sub hl [5, 1, 0] rfl)
          · have c69 := mt (lg_cmp_ge _ _).mpr c69
            have hr2 : 86400 * (t / 86400 + 1) - t < w := by
              rcases Nat.lt_or_ge (86400 * (t / 86400 + 1) - t) w with z | z
              · exact z
              · exact absurd ((pk_lLE (by omega) (by omega)).mpr z) c69
            rw [if_pos hr2] at hX
            refine lv_lload hx hb d_Mod_behind_72 (lv_at hl 0 rfl) ?_
            refine lv_goto (tgt := 79) hx hb d_Mod_behind_74 (by decide) ?_
            refine lv_lstore (lv' := [(13, .long (lN (86400 * (t / 86400 + 1) - t))), (11, .long (lN (86400 * (t / 86400 + 1) - t))), (9, .long (lN (t / 86400))), (0, .ref q), (5, .long (lN t)), (7, .long (lN w))]) hx hb d_Mod_behind_79 hl (by decide) rfl (fun ls hl => ?_)
            refine lv_lload hx hb d_Mod_behind_81 (lv_at hl 4 rfl) ?_
            refine lv_lload hx hb d_Mod_behind_83 (lv_at hl 0 rfl) ?_
            refine lv_ladd hx hb d_Mod_behind_85 ?_
            refine lv_lstore (lv' := [(5, .long ((lN t) + (lN (86400 * (t / 86400 + 1) - t)))), (13, .long (lN (86400 * (t / 86400 + 1) - t))), (11, .long (lN (86400 * (t / 86400 + 1) - t))), (9, .long (lN (t / 86400))), (0, .ref q), (7, .long (lN w))]) hx hb d_Mod_behind_86 hl (by decide) rfl (fun ls hl => ?_)
            refine lv_lload hx hb d_Mod_behind_88 (lv_at hl 5 rfl) ?_
            refine lv_lload hx hb d_Mod_behind_90 (lv_at hl 1 rfl) ?_
            refine lv_lsub hx hb d_Mod_behind_92 ?_
            refine lv_lstore (lv' := [(7, .long ((lN w) - (lN (86400 * (t / 86400 + 1) - t)))), (5, .long ((lN t) + (lN (86400 * (t / 86400 + 1) - t)))), (13, .long (lN (86400 * (t / 86400 + 1) - t))), (11, .long (lN (86400 * (t / 86400 + 1) - t))), (9, .long (lN (t / 86400))), (0, .ref q)]) hx hb d_Mod_behind_93 hl (by decide) rfl (fun ls hl => ?_)
            refine lv_goto (tgt := 6) hx hb d_Mod_behind_95 (by decide) ?_
            rw [lN_add, lN_sub (by omega), show t + (86400 * (t / 86400 + 1) - t) = 86400 * (t / 86400 + 1) by omega] at hl
            exact ih (86400 * (t / 86400 + 1)) (w - (86400 * (t / 86400 + 1) - t)) ls (by omega) (by omega) hX (by have : 86400 * (t / 86400 + 1) / 86400 = t / 86400 + 1 := Nat.mul_div_cancel_left _ (by decide); omega) (lv_sub hl [5, 1, 0] rfl)
        · have c40 := mt (lg_cmp_gt _ _).mpr c40
          have hd : t / 86400 ≤ 20000 := by
            rcases Nat.lt_or_ge 20000 (t / 86400) with z | z
            · exact absurd (show lN 20000 < lN (t / 86400) from (pk_lLT (by omega) (by omega)).mpr z) c40
            · exact z
          refine lv_aload_n hx hb d_Mod_behind_43 rfl (lv_at hl 2 rfl) ?_
          refine mm_get (v := .ref (ad 15)) E hZ cl_Mod fl_Mod_51 (by decide) hR.1.1 rfl d_Mod_behind_44 ?_
          refine lv_lload hx hb d_Mod_behind_47 (lv_at hl 1 rfl) ?_
          refine lv_l2i hx hb d_Mod_behind_49 rfl ?_
          refine rr_zald 15 rfl rfl E hZ hR (lN_i _) (show (t / 86400) < 20001 by omega) d_Mod_behind_50 ?_
          refine lv_if_eq (tgt := 64) hx hb d_Mod_behind_51 (by decide) (fun c51 => ?_) (fun c51 => ?_)
          · rw [if_neg (fun z => z.2 c51)] at hX
            refine lv_lload hx hb d_Mod_behind_64 (lv_at hl 0 rfl) ?_
            refine lv_lload hx hb d_Mod_behind_66 (lv_at hl 4 rfl) ?_
            refine W.lcmp hx hb d_Mod_behind_68 ?_
            refine lv_if_ge (tgt := 77) hx hb d_Mod_behind_69 (by decide) (fun c69 => ?_) (fun c69 => ?_)
            · have c69 := (lg_cmp_ge _ _).mp c69
              have hr2 : ¬ 86400 * (t / 86400 + 1) - t < w := fun z => by
                have := (pk_lLE (by omega) (by omega)).mp c69
                omega
              rw [if_neg hr2] at hX
              refine lv_lload hx hb d_Mod_behind_77 (lv_at hl 4 rfl) ?_
              refine lv_lstore (lv' := [(13, .long (lN w)), (11, .long (lN (86400 * (t / 86400 + 1) - t))), (9, .long (lN (t / 86400))), (0, .ref q), (5, .long (lN t)), (7, .long (lN w))]) hx hb d_Mod_behind_79 hl (by decide) rfl (fun ls hl => ?_)
              refine lv_lload hx hb d_Mod_behind_81 (lv_at hl 4 rfl) ?_
              refine lv_lload hx hb d_Mod_behind_83 (lv_at hl 0 rfl) ?_
              refine lv_ladd hx hb d_Mod_behind_85 ?_
              refine lv_lstore (lv' := [(5, .long ((lN t) + (lN w))), (13, .long (lN w)), (11, .long (lN (86400 * (t / 86400 + 1) - t))), (9, .long (lN (t / 86400))), (0, .ref q), (7, .long (lN w))]) hx hb d_Mod_behind_86 hl (by decide) rfl (fun ls hl => ?_)
              refine lv_lload hx hb d_Mod_behind_88 (lv_at hl 5 rfl) ?_
              refine lv_lload hx hb d_Mod_behind_90 (lv_at hl 1 rfl) ?_
              refine lv_lsub hx hb d_Mod_behind_92 ?_
              refine lv_lstore (lv' := [(7, .long ((lN w) - (lN w))), (5, .long ((lN t) + (lN w))), (13, .long (lN w)), (11, .long (lN (86400 * (t / 86400 + 1) - t))), (9, .long (lN (t / 86400))), (0, .ref q)]) hx hb d_Mod_behind_93 hl (by decide) rfl (fun ls hl => ?_)
              refine lv_goto (tgt := 6) hx hb d_Mod_behind_95 (by decide) ?_
              rw [lN_add, lN_sub (Nat.le_refl w), Nat.sub_self] at hl
              exact ih (t + w) 0 ls (by omega) (by omega) hX (by omega) (lv_sub hl [5, 1, 0] rfl)
            · have c69 := mt (lg_cmp_ge _ _).mpr c69
              have hr2 : 86400 * (t / 86400 + 1) - t < w := by
                rcases Nat.lt_or_ge (86400 * (t / 86400 + 1) - t) w with z | z
                · exact z
                · exact absurd ((pk_lLE (by omega) (by omega)).mpr z) c69
              rw [if_pos hr2] at hX
              refine lv_lload hx hb d_Mod_behind_72 (lv_at hl 0 rfl) ?_
              refine lv_goto (tgt := 79) hx hb d_Mod_behind_74 (by decide) ?_
              refine lv_lstore (lv' := [(13, .long (lN (86400 * (t / 86400 + 1) - t))), (11, .long (lN (86400 * (t / 86400 + 1) - t))), (9, .long (lN (t / 86400))), (0, .ref q), (5, .long (lN t)), (7, .long (lN w))]) hx hb d_Mod_behind_79 hl (by decide) rfl (fun ls hl => ?_)
              refine lv_lload hx hb d_Mod_behind_81 (lv_at hl 4 rfl) ?_
              refine lv_lload hx hb d_Mod_behind_83 (lv_at hl 0 rfl) ?_
              refine lv_ladd hx hb d_Mod_behind_85 ?_
              refine lv_lstore (lv' := [(5, .long ((lN t) + (lN (86400 * (t / 86400 + 1) - t)))), (13, .long (lN (86400 * (t / 86400 + 1) - t))), (11, .long (lN (86400 * (t / 86400 + 1) - t))), (9, .long (lN (t / 86400))), (0, .ref q), (7, .long (lN w))]) hx hb d_Mod_behind_86 hl (by decide) rfl (fun ls hl => ?_)
              refine lv_lload hx hb d_Mod_behind_88 (lv_at hl 5 rfl) ?_
              refine lv_lload hx hb d_Mod_behind_90 (lv_at hl 1 rfl) ?_
              refine lv_lsub hx hb d_Mod_behind_92 ?_
              refine lv_lstore (lv' := [(7, .long ((lN w) - (lN (86400 * (t / 86400 + 1) - t)))), (5, .long ((lN t) + (lN (86400 * (t / 86400 + 1) - t)))), (13, .long (lN (86400 * (t / 86400 + 1) - t))), (11, .long (lN (86400 * (t / 86400 + 1) - t))), (9, .long (lN (t / 86400))), (0, .ref q)]) hx hb d_Mod_behind_93 hl (by decide) rfl (fun ls hl => ?_)
              refine lv_goto (tgt := 6) hx hb d_Mod_behind_95 (by decide) ?_
              rw [lN_add, lN_sub (by omega), show t + (86400 * (t / 86400 + 1) - t) = 86400 * (t / 86400 + 1) by omega] at hl
              exact ih (86400 * (t / 86400 + 1)) (w - (86400 * (t / 86400 + 1) - t)) ls (by omega) (by omega) hX (by have : 86400 * (t / 86400 + 1) / 86400 = t / 86400 + 1 := Nat.mul_div_cancel_left _ (by decide); omega) (lv_sub hl [5, 1, 0] rfl)
          · rw [if_pos ⟨hd, c51⟩] at hX
            refine lv_lload hx hb d_Mod_behind_54 (lv_at hl 3 rfl) ?_
            refine lv_lload hx hb d_Mod_behind_56 (lv_at hl 0 rfl) ?_
            refine lv_ladd hx hb d_Mod_behind_58 ?_
            refine lv_lstore (lv' := [(5, .long ((lN t) + (lN (86400 * (t / 86400 + 1) - t)))), (11, .long (lN (86400 * (t / 86400 + 1) - t))), (9, .long (lN (t / 86400))), (0, .ref q), (7, .long (lN w))]) hx hb d_Mod_behind_59 hl (by decide) rfl (fun ls hl => ?_)
            refine lv_goto (tgt := 95) hx hb d_Mod_behind_61 (by decide) ?_
            refine lv_goto (tgt := 6) hx hb d_Mod_behind_95 (by decide) ?_
            rw [lN_add, show t + (86400 * (t / 86400 + 1) - t) = 86400 * (t / 86400 + 1) by omega] at hl
            exact ih (86400 * (t / 86400 + 1)) w ls (by omega) hw7 hX (by have : 86400 * (t / 86400 + 1) / 86400 = t / 86400 + 1 := Nat.mul_div_cancel_left _ (by decide); omega) (lv_sub hl [3, 0, 4] rfl)
  exact loop (w0 + 20002) t0 w0 ls (by omega) (by omega) rfl (by omega) (lv_sub hl [2, 1, 0] rfl)
