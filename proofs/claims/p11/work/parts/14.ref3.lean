/-! THE REFERENCE: rowFor, isBefore, share, behind -/
/-- the place a comes before b: by shares, then by numbers -/
abbrev bf (I : Nat → Nat → Int32) (a b : Nat) : Prop := (I 21 b).toInt64 * (I 20 a).toInt64 < (I 21 a).toInt64 * (I 20 b).toInt64 ∨ ((I 21 a).toInt64 * (I 20 b).toInt64 = (I 21 b).toInt64 * (I 20 a).toInt64 ∧ nI a < nI b)
/-- the greatest number that divides both is the one at which the reference stops -/
theorem gcd_stop {a b d : Nat} (ha : a % d = 0) (hb : b % d = 0) (hd : 0 < d) (ha0 : 0 < a) (h : ∀ e, d < e → e ≤ a → ¬ (a % e = 0 ∧ b % e = 0)) : d = Nat.gcd a b := by
  have h1 : d ∣ Nat.gcd a b := Nat.dvd_gcd (Nat.dvd_of_mod_eq_zero ha) (Nat.dvd_of_mod_eq_zero hb)
  have h2 : 0 < Nat.gcd a b := Nat.gcd_pos_of_pos_left _ ha0
  have h3 := Nat.le_of_dvd h2 h1
  rcases Nat.lt_or_ge d (Nat.gcd a b) with z | z
  · exact absurd ⟨Nat.mod_eq_zero_of_dvd (Nat.gcd_dvd_left a b), Nat.mod_eq_zero_of_dvd (Nat.gcd_dvd_right a b)⟩ (h _ z (Nat.le_of_dvd ha0 (Nat.gcd_dvd_left a b)))
  · omega
/-- the seconds w from t on, those on holidays apart: day by day -/
def bh (h : Nat → Int32) : Nat → Nat → Nat → Nat
  | 0, t, _ => t
  | n + 1, t, w => if w = 0 then t else if t / 86400 ≤ 20000 ∧ ¬ h (t / 86400) = 0 then bh h n (86400 * (t / 86400 + 1)) w else if 86400 * (t / 86400 + 1) - t < w then bh h n (86400 * (t / 86400 + 1)) (w - (86400 * (t / 86400 + 1) - t)) else bh h n (t + w) 0
theorem l864 : (86400 : Int64) = lN 86400 := rfl
theorem lN_div864 {t : Nat} (h : t < 2 ^ 40) : lN t / 86400 = lN (t / 86400) := by rw [l864, pk_lDiv (by omega) (by omega) (by omega)]
theorem lN_rest {t : Nat} : 86400 * (lN (t / 86400) + 1) - lN t = lN (86400 * (t / 86400 + 1) - t) := by
  rw [l864, lN_1, lN_mul, lN_sub (by omega)]
set_option maxHeartbeats 4000000 in
set_option maxRecDepth 100000 in
theorem c_Mod_rowFor (l : Launch) (g : mm_G) {M : mm_M} {q : Nat} {ad : Nat → Nat} {I : Nat → Nat → Int32} {L : Nat → Nat → Int64} {S : Nat → Int32} {ck : Int64} (h0 : Rs g M q ad I L S ck) (st pl sv : Int32) {nr : Nat} (hn : S 1 = nI nr) (hn4 : nr ≤ 40) : Ci l g y_Mod_rowFor b_Mod_rowFor 5 .int (rk 0 0 0 0) M [.ref q, .int st, .int pl, .int sv] (fun r M' => M' = M ∧ ∃ k, k ≤ nr ∧ r = nI k ∧ ((k = 0 ∧ ∀ j, 1 ≤ j → j ≤ nr → ¬ rowOk I st pl sv j) ∨ (1 ≤ k ∧ rowOk I st pl sv k ∧ ∀ j, 1 ≤ j → j < k → ¬ rowOk I st pl sv j))) := by
  refine mm_enter (by decide) (Nat.le_of_ble_eq_true rfl) (fun pG eV s m args below meth cdx ls Q E hml hr hlk hnm hZ hl eQ => ?_)
  have hx := E.1
  have hb := E.2.1
  have hl : lv_has ls 5 [(0, .ref q), (1, .int st), (2, .int pl), (3, .int sv)] := hl
  have hR := h0.q
  refine lv_iconst (v := 1) hx hb d_Mod_rowFor_0 (by decide) ?_
  refine lv_istore (lv' := [(4, .int 1), (0, .ref q), (1, .int st), (2, .int pl), (3, .int sv)]) hx hb d_Mod_rowFor_1 hl (by decide) rfl (fun ls hl => ?_)
  have J71 : ∀ (k : Nat) (ls : Array Slot), 1 ≤ k → k ≤ nr + 1 → (k ≤ nr → rowOk I st pl sv k) → (∀ j, 1 ≤ j → j < k → ¬ rowOk I st pl sv j) → lv_has ls 5 [(0, .ref q), (1, .int st), (2, .int pl), (3, .int sv), (4, .int (nI k))] → W pG l eV (rk 0 0 0 0) s m args below meth cdx s.heap [] 0 0 Q (F0 m 71 ls []) := by
    intro k ls hk1 hk2 hok hno hl
    refine lv_iload hx hb d_Mod_rowFor_71 (lv_at hl 4 rfl) ?_
    refine lv_aload_n hx hb d_Mod_rowFor_73 rfl (lv_at hl 0 rfl) ?_
    refine mm_get (v := .int (S 1)) E hZ cl_Mod fl_Mod_90 (by decide) hR.1.1 rfl d_Mod_rowFor_74 ?_
    rw [hn]
    refine lv_icmp_gt (tgt := 85) hx hb d_Mod_rowFor_77 (by decide) (fun c77 => ?_) (fun c77 => ?_)
    · have hk : k = nr + 1 := by
        rcases Nat.lt_or_ge nr k with z | z
        · omega
        · exact absurd c77 (nI_nlt z (by omega))
      refine lv_iconst (v := 0) hx hb d_Mod_rowFor_85 (by decide) ?_
      exact mm_iret (v := 0) E hr hlk eQ hZ d_Mod_rowFor_86 ⟨_, rfl, rfl, 0, Nat.zero_le _, nI_0.symm, Or.inl ⟨rfl, fun j z1 z2 => hno j z1 (by omega)⟩⟩
    · have hk : k ≤ nr := by
        rcases Nat.lt_or_ge nr k with z | z
        · exact absurd (nI_lt z (by omega)) c77
        · exact z
      refine lv_iload hx hb d_Mod_rowFor_80 (lv_at hl 4 rfl) ?_
      refine lv_goto (tgt := 86) hx hb d_Mod_rowFor_82 (by decide) ?_
      exact mm_iret (v := nI k) E hr hlk eQ hZ d_Mod_rowFor_86 ⟨_, rfl, rfl, k, hk, rfl, Or.inr ⟨hk1, hok hk, hno⟩⟩
  have loop : ∀ (n : Nat) (k : Nat) (ls : Array Slot), 1 ≤ k → k ≤ nr + 1 → (∀ j, 1 ≤ j → j < k → ¬ rowOk I st pl sv j) → nr + 2 ≤ k + n → lv_has ls 5 [(0, .ref q), (1, .int st), (2, .int pl), (3, .int sv), (4, .int (nI k))] → W pG l eV (rk 0 0 0 0) s m args below meth cdx s.heap [] 0 0 Q (F0 m 3 ls []) := by
    intro n
    induction n with
    | zero => exact fun k ls hk1 hk2 hno hfu _ => absurd hfu (by omega)
    | succ n ih =>
      intro k ls hk1 hk2 hno hfu hl
      refine lv_iload hx hb d_Mod_rowFor_3 (lv_at hl 4 rfl) ?_
      refine lv_aload_n hx hb d_Mod_rowFor_5 rfl (lv_at hl 0 rfl) ?_
      refine mm_get (v := .int (S 1)) E hZ cl_Mod fl_Mod_90 (by decide) hR.1.1 rfl d_Mod_rowFor_6 ?_
      rw [hn]
      refine lv_icmp_gt (tgt := 71) hx hb d_Mod_rowFor_9 (by decide) (fun c9 => ?_) (fun c9 => ?_)
      · have hk : nr < k := by
          rcases Nat.lt_or_ge nr k with z | z
          · exact z
          · exact absurd c9 (nI_nlt z (by omega))
        exact J71 k ls hk1 hk2 (fun z => absurd z (by omega)) hno hl
      · have hk : k ≤ nr := by
          rcases Nat.lt_or_ge nr k with z | z
          · exact absurd (nI_lt z (by omega)) c9
          · exact z
        have J65 : ∀  (ls : Array Slot), ¬ rowOk I st pl sv k → lv_has ls 5 [(0, .ref q), (1, .int st), (2, .int pl), (3, .int sv), (4, .int (nI k))] → W pG l eV (rk 0 0 0 0) s m args below meth cdx s.heap [] 0 0 Q (F0 m 65 ls []) := by
          intro  ls hn0 hl
          refine lv_iinc (v := (nI k) + 1) (lv' := [(4, .int ((nI k) + 1)), (0, .ref q), (1, .int st), (2, .int pl), (3, .int sv)]) hx hb d_Mod_rowFor_65 hl (k := 4) rfl rfl (by decide) rfl (fun ls hl => ?_)
          refine lv_goto (tgt := 3) hx hb d_Mod_rowFor_68 (by decide) ?_
          rw [nI_1] at hl
          exact ih (k + 1) ls (by omega) (by omega) (fun j z1 z2 => by
            rcases Nat.lt_or_ge j k with y | y
            · exact hno j z1 y
            · rw [show j = k by omega]; exact hn0) (by omega) (lv_sub hl [1, 2, 3, 4, 0] rfl)
        refine lv_aload_n hx hb d_Mod_rowFor_12 rfl (lv_at hl 0 rfl) ?_
        refine mm_get (v := .ref (ad 2)) E hZ cl_Mod fl_Mod_7 (by decide) hR.1.1 rfl d_Mod_rowFor_13 ?_
        refine lv_iload hx hb d_Mod_rowFor_16 (lv_at hl 4 rfl) ?_
        refine rr_iald 2 rfl rfl E hZ hR rfl (show k < 41 by omega) d_Mod_rowFor_18 ?_
        refine lv_iload_n hx hb d_Mod_rowFor_19 rfl (lv_at hl 1 rfl) ?_
        refine lv_icmp_ne (tgt := 65) hx hb d_Mod_rowFor_20 (by decide) (fun c20 => ?_) (fun c20 => ?_)
        · exact J65 ls (fun z => c20 z.1) hl
        · refine lv_aload_n hx hb d_Mod_rowFor_23 rfl (lv_at hl 0 rfl) ?_
          refine mm_get (v := .ref (ad 3)) E hZ cl_Mod fl_Mod_13 (by decide) hR.1.1 rfl d_Mod_rowFor_24 ?_
          refine lv_iload hx hb d_Mod_rowFor_27 (lv_at hl 4 rfl) ?_
          refine rr_iald 3 rfl rfl E hZ hR rfl (show k < 41 by omega) d_Mod_rowFor_29 ?_
          refine lv_if_lt (tgt := 44) hx hb d_Mod_rowFor_30 (by decide) (fun c30 => ?_) (fun c30 => ?_)
          · refine lv_aload_n hx hb d_Mod_rowFor_44 rfl (lv_at hl 0 rfl) ?_
            refine mm_get (v := .ref (ad 4)) E hZ cl_Mod fl_Mod_16 (by decide) hR.1.1 rfl d_Mod_rowFor_45 ?_
            refine lv_iload hx hb d_Mod_rowFor_48 (lv_at hl 4 rfl) ?_
            refine rr_iald 4 rfl rfl E hZ hR rfl (show k < 41 by omega) d_Mod_rowFor_50 ?_
            refine lv_if_lt (tgt := 71) hx hb d_Mod_rowFor_51 (by decide) (fun c51 => ?_) (fun c51 => ?_)
            · exact J71 k ls hk1 (by omega) (fun _ => ⟨c20, Or.inl c30, Or.inl c51⟩) hno hl
            · refine lv_aload_n hx hb d_Mod_rowFor_54 rfl (lv_at hl 0 rfl) ?_
              refine mm_get (v := .ref (ad 4)) E hZ cl_Mod fl_Mod_16 (by decide) hR.1.1 rfl d_Mod_rowFor_55 ?_
              refine lv_iload hx hb d_Mod_rowFor_58 (lv_at hl 4 rfl) ?_
              refine rr_iald 4 rfl rfl E hZ hR rfl (show k < 41 by omega) d_Mod_rowFor_60 ?_
              refine lv_iload_n hx hb d_Mod_rowFor_61 rfl (lv_at hl 3 rfl) ?_
              refine lv_icmp_eq (tgt := 71) hx hb d_Mod_rowFor_62 (by decide) (fun c62 => ?_) (fun c62 => ?_)
              · exact J71 k ls hk1 (by omega) (fun _ => ⟨c20, Or.inl c30, Or.inr c62⟩) hno hl
              · exact J65 ls (fun z => z.2.2.elim c51 c62) hl
          · refine lv_aload_n hx hb d_Mod_rowFor_33 rfl (lv_at hl 0 rfl) ?_
            refine mm_get (v := .ref (ad 3)) E hZ cl_Mod fl_Mod_13 (by decide) hR.1.1 rfl d_Mod_rowFor_34 ?_
            refine lv_iload hx hb d_Mod_rowFor_37 (lv_at hl 4 rfl) ?_
            refine rr_iald 3 rfl rfl E hZ hR rfl (show k < 41 by omega) d_Mod_rowFor_39 ?_
            refine lv_iload_n hx hb d_Mod_rowFor_40 rfl (lv_at hl 2 rfl) ?_
            refine lv_icmp_ne (tgt := 65) hx hb d_Mod_rowFor_41 (by decide) (fun c41 => ?_) (fun c41 => ?_)
            · exact J65 ls (fun z => z.2.1.elim c30 c41) hl
            · refine lv_aload_n hx hb d_Mod_rowFor_44 rfl (lv_at hl 0 rfl) ?_
              refine mm_get (v := .ref (ad 4)) E hZ cl_Mod fl_Mod_16 (by decide) hR.1.1 rfl d_Mod_rowFor_45 ?_
              refine lv_iload hx hb d_Mod_rowFor_48 (lv_at hl 4 rfl) ?_
              refine rr_iald 4 rfl rfl E hZ hR rfl (show k < 41 by omega) d_Mod_rowFor_50 ?_
              refine lv_if_lt (tgt := 71) hx hb d_Mod_rowFor_51 (by decide) (fun c51 => ?_) (fun c51 => ?_)
              · exact J71 k ls hk1 (by omega) (fun _ => ⟨c20, Or.inr c41, Or.inl c51⟩) hno hl
              · refine lv_aload_n hx hb d_Mod_rowFor_54 rfl (lv_at hl 0 rfl) ?_
                refine mm_get (v := .ref (ad 4)) E hZ cl_Mod fl_Mod_16 (by decide) hR.1.1 rfl d_Mod_rowFor_55 ?_
                refine lv_iload hx hb d_Mod_rowFor_58 (lv_at hl 4 rfl) ?_
                refine rr_iald 4 rfl rfl E hZ hR rfl (show k < 41 by omega) d_Mod_rowFor_60 ?_
                refine lv_iload_n hx hb d_Mod_rowFor_61 rfl (lv_at hl 3 rfl) ?_
                refine lv_icmp_eq (tgt := 71) hx hb d_Mod_rowFor_62 (by decide) (fun c62 => ?_) (fun c62 => ?_)
                · exact J71 k ls hk1 (by omega) (fun _ => ⟨c20, Or.inr c41, Or.inr c62⟩) hno hl
                · exact J65 ls (fun z => z.2.2.elim c51 c62) hl
  exact loop (nr + 2) 1 ls (Nat.le_refl _) (by omega) (fun j z1 z2 => absurd z1 (by omega)) (by omega) (lv_sub hl [1, 2, 3, 4, 0] rfl)
set_option maxHeartbeats 4000000 in
set_option maxRecDepth 100000 in
theorem c_Mod_isBefore (l : Launch) (g : mm_G) {M : mm_M} {q : Nat} {ad : Nat → Nat} {I : Nat → Nat → Int32} {L : Nat → Nat → Int64} {S : Nat → Int32} {ck : Int64} (h0 : Rs g M q ad I L S ck) {a b : Nat} (ha : a < 50) (hb50 : b < 50) : Ci l g y_Mod_isBefore b_Mod_isBefore 7 .boolean (rk 0 0 0 0) M [.ref q, .int (nI a), .int (nI b)] (fun r M' => M' = M ∧ r = b32 (bf I a b)) := by
  refine mm_enter (by decide) (Nat.le_of_ble_eq_true rfl) (fun pG eV s m args below meth cdx ls Q E hml hr hlk hnm hZ hl eQ => ?_)
  have hx := E.1
  have hb := E.2.1
  have hl : lv_has ls 7 [(0, .ref q), (1, .int (nI a)), (2, .int (nI b))] := hl
  have hR := h0.q
  refine lv_aload_n hx hb d_Mod_isBefore_0 rfl (lv_at hl 0 rfl) ?_
  refine mm_get (v := .ref (ad 21)) E hZ cl_Mod fl_Mod_60 (by decide) hR.1.1 rfl d_Mod_isBefore_1 ?_
  refine lv_iload_n hx hb d_Mod_isBefore_4 rfl (lv_at hl 1 rfl) ?_
  refine rr_iald 21 rfl rfl E hZ hR rfl (show a < 50 by omega) d_Mod_isBefore_5 ?_
  refine lv_i2l hx hb d_Mod_isBefore_6 rfl ?_
  refine lv_aload_n hx hb d_Mod_isBefore_7 rfl (lv_at hl 0 rfl) ?_
  refine mm_get (v := .ref (ad 20)) E hZ cl_Mod fl_Mod_57 (by decide) hR.1.1 rfl d_Mod_isBefore_8 ?_
  refine lv_iload_n hx hb d_Mod_isBefore_11 rfl (lv_at hl 2 rfl) ?_
  refine rr_iald 20 rfl rfl E hZ hR rfl (show b < 50 by omega) d_Mod_isBefore_12 ?_
  refine lv_i2l hx hb d_Mod_isBefore_13 rfl ?_
  refine lv_lmul hx hb d_Mod_isBefore_14 ?_
  refine lv_lstore_n (lv' := [(3, .long (((I 21 a).toInt64) * ((I 20 b).toInt64))), (0, .ref q), (1, .int (nI a)), (2, .int (nI b))]) hx hb d_Mod_isBefore_15 rfl hl (by decide) rfl (fun ls hl => ?_)
  refine lv_aload_n hx hb d_Mod_isBefore_16 rfl (lv_at hl 1 rfl) ?_
  refine mm_get (v := .ref (ad 21)) E hZ cl_Mod fl_Mod_60 (by decide) hR.1.1 rfl d_Mod_isBefore_17 ?_
  refine lv_iload_n hx hb d_Mod_isBefore_20 rfl (lv_at hl 3 rfl) ?_
  refine rr_iald 21 rfl rfl E hZ hR rfl (show b < 50 by omega) d_Mod_isBefore_21 ?_
  refine lv_i2l hx hb d_Mod_isBefore_22 rfl ?_
  refine lv_aload_n hx hb d_Mod_isBefore_23 rfl (lv_at hl 1 rfl) ?_
  refine mm_get (v := .ref (ad 20)) E hZ cl_Mod fl_Mod_57 (by decide) hR.1.1 rfl d_Mod_isBefore_24 ?_
  refine lv_iload_n hx hb d_Mod_isBefore_27 rfl (lv_at hl 2 rfl) ?_
  refine rr_iald 20 rfl rfl E hZ hR rfl (show a < 50 by omega) d_Mod_isBefore_28 ?_
  refine lv_i2l hx hb d_Mod_isBefore_29 rfl ?_
  refine lv_lmul hx hb d_Mod_isBefore_30 ?_
  refine lv_lstore (lv' := [(5, .long (((I 21 b).toInt64) * ((I 20 a).toInt64))), (3, .long (((I 21 a).toInt64) * ((I 20 b).toInt64))), (0, .ref q), (1, .int (nI a)), (2, .int (nI b))]) hx hb d_Mod_isBefore_31 hl (by decide) rfl (fun ls hl => ?_)
  refine lv_lload_n hx hb d_Mod_isBefore_33 rfl (lv_at hl 1 rfl) ?_
  refine lv_lload hx hb d_Mod_isBefore_34 (lv_at hl 0 rfl) ?_
  refine W.lcmp hx hb d_Mod_isBefore_36 ?_
  refine lv_if_gt (tgt := 52) hx hb d_Mod_isBefore_37 (by decide) (fun c37 => ?_) (fun c37 => ?_)
  · have c37 := (lg_cmp_gt _ _).mp c37
    refine lv_iconst (v := 1) hx hb d_Mod_isBefore_52 (by decide) ?_
    refine lv_goto (tgt := 57) hx hb d_Mod_isBefore_53 (by decide) ?_
    exact mm_zret (v := 1) E hr hlk eQ hZ rfl d_Mod_isBefore_57 ⟨_, rfl, rfl, b32_t (Or.inl c37)⟩
  · have c37 := mt (lg_cmp_gt _ _).mpr c37
    refine lv_lload_n hx hb d_Mod_isBefore_40 rfl (lv_at hl 1 rfl) ?_
    refine lv_lload hx hb d_Mod_isBefore_41 (lv_at hl 0 rfl) ?_
    refine W.lcmp hx hb d_Mod_isBefore_43 ?_
    refine lv_if_ne (tgt := 56) hx hb d_Mod_isBefore_44 (by decide) (fun c44 => ?_) (fun c44 => ?_)
    · have c44 := mt (lg_cmp_eq _ _).mpr c44
      refine lv_iconst (v := 0) hx hb d_Mod_isBefore_56 (by decide) ?_
      exact mm_zret (v := 0) E hr hlk eQ hZ rfl d_Mod_isBefore_57 ⟨_, rfl, rfl, b32_f (fun z => z.elim c37 (fun y => c44 y.1))⟩
    · have c44 := (lg_cmp_eq _ _).mp c44
      refine lv_iload_n hx hb d_Mod_isBefore_47 rfl (lv_at hl 3 rfl) ?_
      refine lv_iload_n hx hb d_Mod_isBefore_48 rfl (lv_at hl 4 rfl) ?_
      refine lv_icmp_ge (tgt := 56) hx hb d_Mod_isBefore_49 (by decide) (fun c49 => ?_) (fun c49 => ?_)
      · refine lv_iconst (v := 0) hx hb d_Mod_isBefore_56 (by decide) ?_
        exact mm_zret (v := 0) E hr hlk eQ hZ rfl d_Mod_isBefore_57 ⟨_, rfl, rfl, b32_f (fun z => z.elim c37 (fun y => absurd y.2 (Int32.not_lt.mpr c49)))⟩
      · refine lv_iconst (v := 1) hx hb d_Mod_isBefore_52 (by decide) ?_
        refine lv_goto (tgt := 57) hx hb d_Mod_isBefore_53 (by decide) ?_
        exact mm_zret (v := 1) E hr hlk eQ hZ rfl d_Mod_isBefore_57 ⟨_, rfl, rfl, b32_t (Or.inr ⟨c44, Int32.not_le.mp c49⟩)⟩
theorem side01 {x : Int32} (h0 : ¬ x < 0) (h1 : x ≤ 1) : x = 0 ∨ x = 1 := by
  obtain ⟨j, hj, rfl⟩ := nI_of2 (n := 1) (by decide) h0 h1
  rcases (show j = 0 ∨ j = 1 by omega) with rfl | rfl
  · exact Or.inl rfl
  · exact Or.inr rfl
set_option maxHeartbeats 4000000 in
set_option maxRecDepth 100000 in
theorem c_Mod_share (l : Launch) (g : mm_G) {M : mm_M} {q : Nat} {ad : Nat → Nat} {I : Nat → Nat → Int32} {L : Nat → Nat → Int64} {S : Nat → Int32} {ck : Int64} (h0 : Rs g M q ad I L S ck) (i sd : Int32) {bg lt : Nat → Nat} (hc : ∀ j, j ≤ 49 → I 20 j = nI (bg j) ∧ I 21 j = nI (lt j) ∧ bg j < 2 ^ 20 ∧ lt j < 2 ^ 20) : Cl l g y_Mod_share b_Mod_share 4 (rk 1 25 0 0) M [.ref q, .int i, .int sd] (fun r M' => ((∀ j, j ≤ 49 → i ≠ nI j) ∧ r = (-101) ∧ Rq g M M' q ad I L (va_up S 0 0) ck) ∨ ∃ j, j ≤ 49 ∧ i = nI j ∧ ((¬ (sd = 0 ∨ sd = 1) ∧ r = (-102) ∧ Rq g M M' q ad I L (va_up S 0 0) ck) ∨ ((sd = 0 ∨ sd = 1) ∧ bg j = 0 ∧ r = 0 ∧ Rq g M M' q ad I L (va_up (va_up S 0 0) 0 1) ck) ∨ ((sd = 0 ∨ sd = 1) ∧ 0 < bg j ∧ r = (if sd = 0 then lN (lt j / Nat.gcd (bg j) (lt j)) else lN (bg j / Nat.gcd (bg j) (lt j))) ∧ Rq g M M' q ad I L (va_up S 0 0) ck))) := by
  refine mm_enter (by decide) (Nat.le_of_ble_eq_true rfl) (fun pG eV s m args below meth cdx ls Q E hml hr hlk hnm hZ hl eQ => ?_)
  have hx := E.1
  have hb := E.2.1
  have hl : lv_has ls 4 [(0, .ref q), (1, .int i), (2, .int sd)] := hl
  have hR := h0.q
  refine lv_aload_n hx hb d_Mod_share_0 rfl (lv_at hl 0 rfl) ?_
  refine lv_iconst (v := 0) hx hb d_Mod_share_1 (by decide) ?_
  refine rr_put0 E hZ hR fl_Mod_72 d_Mod_share_2 (fun M H locs hZ hR => ?_)
  refine lv_iload_n hx hb d_Mod_share_5 rfl (lv_at hl 1 rfl) ?_
  refine lv_i2l hx hb d_Mod_share_6 rfl ?_
  refine lv_lconst (v := 0) hx hb d_Mod_share_7 (by decide) ?_
  refine lv_ldc2 (v := 49) hx hb E.2.2.1 (E.2.2.2.1 _ w_702) d_Mod_share_8 ?_
  refine mm_calli (mm_runS (As := [.long i.toInt64, .long 0, .long 49]) (rest := []) E hZ hml hl.1 lk_Mod_78 me_Mod_isIn st_Mod_isIn (c_Mod_isIn l g _ i.toInt64 0 49) ⟨Nat.le_of_ble_eq_true rfl, Nat.le_of_ble_eq_true rfl⟩ rfl (Nat.le_of_ble_eq_true rfl) d_Mod_share_11 ⟨Nat.le_of_ble_eq_true rfl, Nat.le_of_ble_eq_true rfl⟩) hZ (fun r1 M1 H locs hp hZ => ?_)
  rw [hp.1] at hZ
  replace hp := hp.2
  refine lv_if_ne (tgt := 21) hx hb d_Mod_share_14 (by decide) (fun c14 => ?_) (fun c14 => ?_)
  · obtain ⟨j, hj, rfl⟩ := in_nat (n := 49) rfl (by decide) (b32_ne0 (hp ▸ c14))
    clear hp
    obtain ⟨hbg, hlt, hb2, hl2⟩ := hc j hj
    refine lv_iload_n hx hb d_Mod_share_21 rfl (lv_at hl 2 rfl) ?_
    refine lv_if_lt (tgt := 30) hx hb d_Mod_share_22 (by decide) (fun c22 => ?_) (fun c22 => ?_)
    · refine lv_ldc2 (v := (-102)) hx hb E.2.2.1 (E.2.2.2.1 _ w_761) d_Mod_share_30 ?_
      exact mm_lret (v := (-102)) E hr hlk eQ hZ d_Mod_share_33 ⟨_, rfl, Or.inr ⟨j, hj, rfl, Or.inl ⟨fun z => z.elim (fun y => absurd (y ▸ c22) (by decide)) (fun y => absurd (y ▸ c22) (by decide)), rfl, hR⟩⟩⟩
    · refine lv_iload_n hx hb d_Mod_share_25 rfl (lv_at hl 2 rfl) ?_
      refine lv_iconst (v := 1) hx hb d_Mod_share_26 (by decide) ?_
      refine lv_icmp_le (tgt := 34) hx hb d_Mod_share_27 (by decide) (fun c27 => ?_) (fun c27 => ?_)
      · have hsd : sd = 0 ∨ sd = 1 := side01 c22 c27
        refine lv_aload_n hx hb d_Mod_share_34 rfl (lv_at hl 0 rfl) ?_
        refine mm_get (v := .ref (ad 20)) E hZ cl_Mod fl_Mod_57 (by decide) hR.1.1 rfl d_Mod_share_35 ?_
        refine lv_iload_n hx hb d_Mod_share_38 rfl (lv_at hl 1 rfl) ?_
        refine rr_iald 20 rfl rfl E hZ hR rfl (show j < 50 by omega) d_Mod_share_39 ?_
        rw [hbg]
        refine lv_if_ne (tgt := 50) hx hb d_Mod_share_40 (by decide) (fun c40 => ?_) (fun c40 => ?_)
        · have hb0 : 0 < bg j := by
            rcases Nat.eq_zero_or_pos (bg j) with z | z
            · exact absurd (by rw [z]; rfl) c40
            · exact z
          refine lv_aload_n hx hb d_Mod_share_50 rfl (lv_at hl 0 rfl) ?_
          refine mm_get (v := .ref (ad 20)) E hZ cl_Mod fl_Mod_57 (by decide) hR.1.1 rfl d_Mod_share_51 ?_
          refine lv_iload_n hx hb d_Mod_share_54 rfl (lv_at hl 1 rfl) ?_
          refine rr_iald 20 rfl rfl E hZ hR rfl (show j < 50 by omega) d_Mod_share_55 ?_
          refine lv_istore_n (lv' := [(3, .int (I 20 j)), (0, .ref q), (1, .int (nI j)), (2, .int sd)]) hx hb d_Mod_share_56 rfl hl (by decide) rfl (fun ls hl => ?_)
          have loop : ∀ (n : Nat) (d : Nat) (ls : Array Slot), 0 < d → d ≤ bg j → (∀ e, d < e → e ≤ bg j → ¬ (bg j % e = 0 ∧ lt j % e = 0)) → d + 1 ≤ n → lv_has ls 4 [(0, .ref q), (1, .int (nI j)), (2, .int sd), (3, .int (nI d))] → W pG l eV (rk 1 25 0 0) s m args below meth cdx H locs 0 0 Q (F0 m 57 ls []) := by
            intro n
            induction n with
            | zero => exact fun d ls hd1 hdb hno hfu _ => absurd hfu (by omega)
            | succ n ih =>
              intro d ls hd1 hdb hno hfu hl
              have J85 : ∀  (ls : Array Slot), bg j % d = 0 → lt j % d = 0 → lv_has ls 4 [(0, .ref q), (1, .int (nI j)), (2, .int sd), (3, .int (nI d))] → W pG l eV (rk 1 25 0 0) s m args below meth cdx H locs 0 0 Q (F0 m 85 ls []) := by
                intro  ls hm1 hm2 hl
                have hg := gcd_stop hm1 hm2 hd1 hb0 hno
                refine lv_iload_n hx hb d_Mod_share_85 rfl (lv_at hl 2 rfl) ?_
                refine lv_if_ne (tgt := 98) hx hb d_Mod_share_86 (by decide) (fun c86 => ?_) (fun c86 => ?_)
                · refine lv_aload_n hx hb d_Mod_share_98 rfl (lv_at hl 0 rfl) ?_
                  refine mm_get (v := .ref (ad 20)) E hZ cl_Mod fl_Mod_57 (by decide) hR.1.1 rfl d_Mod_share_99 ?_
                  refine lv_iload_n hx hb d_Mod_share_102 rfl (lv_at hl 1 rfl) ?_
                  refine rr_iald 20 rfl rfl E hZ hR rfl (show j < 50 by omega) d_Mod_share_103 ?_
                  refine lv_iload_n hx hb d_Mod_share_104 rfl (lv_at hl 3 rfl) ?_
                  rw [hbg]
                  refine lv_idiv hx hb d_Mod_share_105 (nI_ne0 hd1 (by omega)) ?_
                  rw [pk_div (by omega) hd1 (by omega)]
                  refine lv_i2l hx hb d_Mod_share_106 rfl ?_
                  exact mm_lret (v := (nI (bg j / d)).toInt64) E hr hlk eQ hZ d_Mod_share_107 ⟨_, rfl, Or.inr ⟨j, hj, rfl, Or.inr (Or.inr ⟨hsd, hb0, by rw [if_neg c86, ← hg, nI_l (by exact Nat.lt_of_le_of_lt (Nat.div_le_self _ _) (by omega))], hR⟩)⟩⟩
                · refine lv_aload_n hx hb d_Mod_share_89 rfl (lv_at hl 0 rfl) ?_
                  refine mm_get (v := .ref (ad 21)) E hZ cl_Mod fl_Mod_60 (by decide) hR.1.1 rfl d_Mod_share_90 ?_
                  refine lv_iload_n hx hb d_Mod_share_93 rfl (lv_at hl 1 rfl) ?_
                  refine rr_iald 21 rfl rfl E hZ hR rfl (show j < 50 by omega) d_Mod_share_94 ?_
                  refine lv_goto (tgt := 104) hx hb d_Mod_share_95 (by decide) ?_
                  refine lv_iload_n hx hb d_Mod_share_104 rfl (lv_at hl 3 rfl) ?_
                  rw [hlt]
                  refine lv_idiv hx hb d_Mod_share_105 (nI_ne0 hd1 (by omega)) ?_
                  rw [pk_div (by omega) hd1 (by omega)]
                  refine lv_i2l hx hb d_Mod_share_106 rfl ?_
                  exact mm_lret (v := (nI (lt j / d)).toInt64) E hr hlk eQ hZ d_Mod_share_107 ⟨_, rfl, Or.inr ⟨j, hj, rfl, Or.inr (Or.inr ⟨hsd, hb0, by rw [if_pos c86, ← hg, nI_l (by exact Nat.lt_of_le_of_lt (Nat.div_le_self _ _) (by omega))], hR⟩)⟩⟩
              refine lv_aload_n hx hb d_Mod_share_57 rfl (lv_at hl 0 rfl) ?_
              refine mm_get (v := .ref (ad 20)) E hZ cl_Mod fl_Mod_57 (by decide) hR.1.1 rfl d_Mod_share_58 ?_
              refine lv_iload_n hx hb d_Mod_share_61 rfl (lv_at hl 1 rfl) ?_
              refine rr_iald 20 rfl rfl E hZ hR rfl (show j < 50 by omega) d_Mod_share_62 ?_
              refine lv_iload_n hx hb d_Mod_share_63 rfl (lv_at hl 3 rfl) ?_
              rw [hbg]
              refine lv_irem hx hb d_Mod_share_64 (nI_ne0 hd1 (by omega)) ?_
              rw [pk_rem (by omega) hd1 (by omega)]
              refine lv_if_ne (tgt := 79) hx hb d_Mod_share_65 (by decide) (fun c65 => ?_) (fun c65 => ?_)
              · have hd2 : 1 < d := by
                  rcases Nat.lt_or_ge 1 d with z | z
                  · exact z
                  · exfalso; have : d = 1 := by omega
                    subst this; exact c65 (by rw [Nat.mod_one]; rfl)
                refine lv_iinc (v := (nI d) + (-1)) (lv' := [(3, .int ((nI d) + (-1))), (0, .ref q), (1, .int (nI j)), (2, .int sd)]) hx hb d_Mod_share_79 hl (k := 3) rfl rfl (by decide) rfl (fun ls hl => ?_)
                refine lv_goto (tgt := 57) hx hb d_Mod_share_82 (by decide) ?_
                rw [show nI d + (-1) = nI (d - 1) from sb_m1 hd1] at hl
                exact ih (d - 1) ls (by omega) (by omega) (fun e z1 z2 => by
                  rcases Nat.lt_or_ge d e with y | y
                  · exact hno e y z2
                  · rw [show e = d by omega]; exact fun z => c65 (by rw [z.1]; rfl)) (by omega) (lv_sub hl [1, 2, 3, 0] rfl)
              · have hm1 : bg j % d = 0 := (nI_eq (Nat.lt_of_lt_of_le (Nat.mod_lt _ hd1) (by omega)) (by decide)).mp (show nI (bg j % d) = nI 0 from c65)
                refine lv_aload_n hx hb d_Mod_share_68 rfl (lv_at hl 0 rfl) ?_
                refine mm_get (v := .ref (ad 21)) E hZ cl_Mod fl_Mod_60 (by decide) hR.1.1 rfl d_Mod_share_69 ?_
                refine lv_iload_n hx hb d_Mod_share_72 rfl (lv_at hl 1 rfl) ?_
                refine rr_iald 21 rfl rfl E hZ hR rfl (show j < 50 by omega) d_Mod_share_73 ?_
                refine lv_iload_n hx hb d_Mod_share_74 rfl (lv_at hl 3 rfl) ?_
                rw [hlt]
                refine lv_irem hx hb d_Mod_share_75 (nI_ne0 hd1 (by omega)) ?_
                rw [pk_rem (by omega) hd1 (by omega)]
                refine lv_if_eq (tgt := 85) hx hb d_Mod_share_76 (by decide) (fun c76 => ?_) (fun c76 => ?_)
                · exact J85 ls hm1 ((nI_eq (Nat.lt_of_lt_of_le (Nat.mod_lt _ hd1) (by omega)) (by decide)).mp (show nI (lt j % d) = nI 0 from c76)) hl
                · have hd2 : 1 < d := by
                    rcases Nat.lt_or_ge 1 d with z | z
                    · exact z
                    · exfalso; have : d = 1 := by omega
                      subst this; exact c76 (by rw [Nat.mod_one]; rfl)
                  refine lv_iinc (v := (nI d) + (-1)) (lv' := [(3, .int ((nI d) + (-1))), (0, .ref q), (1, .int (nI j)), (2, .int sd)]) hx hb d_Mod_share_79 hl (k := 3) rfl rfl (by decide) rfl (fun ls hl => ?_)
                  refine lv_goto (tgt := 57) hx hb d_Mod_share_82 (by decide) ?_
                  rw [show nI d + (-1) = nI (d - 1) from sb_m1 hd1] at hl
                  exact ih (d - 1) ls (by omega) (by omega) (fun e z1 z2 => by
                    rcases Nat.lt_or_ge d e with y | y
                    · exact hno e y z2
                    · rw [show e = d by omega]; exact fun z => c76 (by rw [z.2]; rfl)) (by omega) (lv_sub hl [1, 2, 3, 0] rfl)
          rw [hbg] at hl
          exact loop (bg j + 1) (bg j) ls hb0 (Nat.le_refl _) (fun e z1 z2 => absurd z1 (by omega)) (Nat.le_refl _) (lv_sub hl [1, 2, 3, 0] rfl)
        · have hb0 : bg j = 0 := (nI_eq (by omega) (by decide)).mp (show nI (bg j) = nI 0 from c40)
          refine lv_aload_n hx hb d_Mod_share_43 rfl (lv_at hl 0 rfl) ?_
          refine lv_iconst (v := 1) hx hb d_Mod_share_44 (by decide) ?_
          refine rr_put0 E hZ hR fl_Mod_72 d_Mod_share_45 (fun M H locs hZ hR => ?_)
          refine lv_lconst (v := 0) hx hb d_Mod_share_48 (by decide) ?_
          exact mm_lret (v := 0) E hr hlk eQ hZ d_Mod_share_49 ⟨_, rfl, Or.inr ⟨j, hj, rfl, Or.inr (Or.inl ⟨hsd, hb0, rfl, hR⟩)⟩⟩
      · refine lv_ldc2 (v := (-102)) hx hb E.2.2.1 (E.2.2.2.1 _ w_761) d_Mod_share_30 ?_
        exact mm_lret (v := (-102)) E hr hlk eQ hZ d_Mod_share_33 ⟨_, rfl, Or.inr ⟨j, hj, rfl, Or.inl ⟨fun z => z.elim (fun y => c27 (by rw [y]; decide)) (fun y => c27 (by rw [y]; decide)), rfl, hR⟩⟩⟩
  · refine lv_ldc2 (v := (-101)) hx hb E.2.2.1 (E.2.2.2.1 _ w_760) d_Mod_share_17 ?_
    exact mm_lret (v := (-101)) E hr hlk eQ hZ d_Mod_share_20 ⟨_, rfl, Or.inl ⟨out_nat (by decide) (by decide) (b32_eq0.mp (hp ▸ c14)), rfl, hR⟩⟩
