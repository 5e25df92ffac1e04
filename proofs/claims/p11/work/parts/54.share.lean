/-! THE CLASS: commonDivisor, share -/
/-- Euclid's steps -/
def gst : Nat → Nat → Nat → Nat
  | 0, _, _ => 0
  | f + 1, x, y => if y = 0 then 0 else gst f y (x % y) + 1
theorem gst_le : ∀ (j f x y : Nat), y < 2 ^ j → gst f x y ≤ 2 * j
  | 0, f, x, y, h => by
    have h0 : y = 0 := by
      have : (2 : Nat) ^ 0 = 1 := rfl
      omega
    cases f with
    | zero => exact Nat.zero_le _
    | succ f => unfold gst; rw [if_pos h0]; exact Nat.zero_le _
  | j + 1, f, x, y, h => by
    cases f with
    | zero => exact Nat.zero_le _
    | succ f =>
      unfold gst
      by_cases hy : y = 0
      · rw [if_pos hy]; exact Nat.zero_le _
      · rw [if_neg hy]
        have hr : x % y < y := Nat.mod_lt _ (by omega)
        cases f with
        | zero => show 0 + 1 ≤ _; omega
        | succ f =>
          unfold gst
          by_cases hr0 : x % y = 0
          · rw [if_pos hr0]; omega
          · rw [if_neg hr0]
            have hlt : y % (x % y) < x % y := Nat.mod_lt _ (by omega)
            have hle : y % (x % y) ≤ y - x % y := by
              rw [Nat.mod_eq_sub_mod (by omega)]
              exact Nat.mod_le _ _
            have h2 : y % (x % y) < 2 ^ j := by
              have : 2 ^ (j + 1) = 2 * 2 ^ j := by rw [Nat.pow_succ]; omega
              omega
            have := gst_le j f (x % y) (y % (x % y)) h2
            omega
theorem gst_s {n x y : Nat} (h : 0 < y) : gst (n + 1) x y = gst n y (x % y) + 1 := by
  show (if y = 0 then 0 else gst n y (x % y) + 1) = _
  rw [if_neg (by omega)]
theorem cd_max {d : Nat} (h : d < 2 ^ 20) : (if nI d < 1 then (1 : Int32) else nI d) = nI (if d = 0 then 1 else d) := by
  by_cases z : d = 0
  · subst z; decide
  · rw [if_neg z]
    exact if_neg (show ¬ nI d < nI 1 from nI_nlt (by omega) (by omega))
theorem gcd_lt {a b : Nat} (ha : a < 2 ^ 20) (hb : b < 2 ^ 20) : Nat.gcd a b < 2 ^ 20 := by
  rcases Nat.eq_zero_or_pos a with z | z
  · subst z; rw [Nat.gcd_zero_left]; exact hb
  · exact Nat.lt_of_le_of_lt (Nat.le_of_dvd z (Nat.gcd_dvd_left a b)) ha
set_option maxHeartbeats 4000000 in
set_option maxRecDepth 100000 in
theorem c_X_commonDivisor (l : Launch) (g : mm_G) {M0 : mm_M} {a b : Nat} (ha : a < 2 ^ 20) (hb2 : b < 2 ^ 20) : Ci l g y_X_commonDivisor b_X_commonDivisor 6 .int (rk 1 21 0 0) M0 [.int (nI a), .int (nI b)] (fun r M' => M' = M0 ∧ r = nI (if Nat.gcd a b = 0 then 1 else Nat.gcd a b)) := by
  refine mm_enter (by decide) (Nat.le_of_ble_eq_true rfl) (fun pG eV s m args below meth cdx ls Q E hml hr hlk hnm hZ hl eQ => ?_)
  have hx := E.1
  have hb := E.2.1
  have hl : lv_has ls 6 [(0, .int (nI a)), (1, .int (nI b))] := hl
  refine lv_iload_n hx hb d_X_commonDivisor_0 rfl (lv_at hl 0 rfl) ?_
  refine lv_istore_n (lv' := [(2, .int (nI a)), (0, .int (nI a)), (1, .int (nI b))]) hx hb d_X_commonDivisor_1 rfl hl (by decide) rfl (fun ls hl => ?_)
  refine lv_iload_n hx hb d_X_commonDivisor_2 rfl (lv_at hl 2 rfl) ?_
  refine lv_istore_n (lv' := [(3, .int (nI b)), (2, .int (nI a)), (0, .int (nI a)), (1, .int (nI b))]) hx hb d_X_commonDivisor_3 rfl hl (by decide) rfl (fun ls hl => ?_)
  refine lv_iconst (v := 0) hx hb d_X_commonDivisor_4 (by decide) ?_
  refine lv_istore (lv' := [(4, .int 0), (3, .int (nI b)), (2, .int (nI a)), (0, .int (nI a)), (1, .int (nI b))]) hx hb d_X_commonDivisor_5 hl (by decide) rfl (fun ls hl => ?_)
  have loop : ∀ (n : Nat) (x : Nat) (y : Nat) (k : Nat) (ls : Array Slot), x < 2 ^ 20 → y < 2 ^ 20 → Nat.gcd x y = Nat.gcd a b → gst n x y + k ≤ 64 → 65 ≤ k + n → lv_has ls 6 [(2, .int (nI x)), (3, .int (nI y)), (4, .int (nI k))] → W pG l eV (rk 1 21 0 0) s m args below meth cdx s.heap [] 0 0 Q (F0 m 7 ls []) := by
    intro n
    induction n with
    | zero => exact fun x y k ls hx2 hy2 hg hgk hfu _ => absurd hfu (by omega)
    | succ n ih =>
      intro x y k ls hx2 hy2 hg hgk hfu hl
      have J34 : ∀  (ls : Array Slot), y = 0 → lv_has ls 6 [(2, .int (nI x))] → W pG l eV (rk 1 21 0 0) s m args below meth cdx s.heap [] 0 0 Q (F0 m 34 ls []) := by
        intro  ls hy0 hl
        have hxg : x = Nat.gcd a b := by rw [← hg, hy0, Nat.gcd_zero_right]
        refine lv_iload_n hx hb d_X_commonDivisor_34 rfl (lv_at hl 0 rfl) ?_
        refine lv_iconst (v := 1) hx hb d_X_commonDivisor_35 (by decide) ?_
        refine mm_max E hml hl.1 w_482 (Nat.le_of_ble_eq_true rfl) (Nat.le_of_ble_eq_true rfl) (Nat.le_of_ble_eq_true rfl) (Nat.le_of_ble_eq_true rfl) d_X_commonDivisor_36 ?_
        exact mm_iret (v := if nI x < 1 then 1 else nI x) E hr hlk eQ hZ d_X_commonDivisor_39 ⟨_, rfl, rfl, by rw [← hxg]; exact cd_max hx2⟩
      refine lv_iload hx hb d_X_commonDivisor_7 (lv_at hl 2 rfl) ?_
      refine lv_bipush (v := 64) hx hb d_X_commonDivisor_9 (by decide) ?_
      refine lv_icmp_ge (tgt := 34) hx hb d_X_commonDivisor_11 (by decide) (fun c11 => ?_) (fun c11 => ?_)
      · exact J34 ls (by
          have hk : 64 ≤ k := by
            rcases Nat.lt_or_ge k 64 with z | z
            · exact absurd (show nI 64 ≤ nI k from c11) (nI_ge z (by decide))
            · exact z
          rcases Nat.eq_zero_or_pos y with z | z
          · exact z
          · have := gst_s (n := n) (x := x) z
            omega) (lv_sub hl [0] rfl)
      · refine lv_iload_n hx hb d_X_commonDivisor_14 rfl (lv_at hl 1 rfl) ?_
        refine lv_if_eq (tgt := 34) hx hb d_X_commonDivisor_15 (by decide) (fun c15 => ?_) (fun c15 => ?_)
        · exact J34 ls (by
            rcases Nat.eq_zero_or_pos y with z | z
            · exact z
            · exact absurd c15 (nI_ne0 z (by omega))) (lv_sub hl [0] rfl)
        · have hy1 : 0 < y := by
            rcases Nat.eq_zero_or_pos y with z | z
            · exact absurd (show nI y = 0 by rw [z]; rfl) c15
            · exact z
          refine lv_iload_n hx hb d_X_commonDivisor_18 rfl (lv_at hl 0 rfl) ?_
          refine lv_iload_n hx hb d_X_commonDivisor_19 rfl (lv_at hl 1 rfl) ?_
          refine lv_irem hx hb d_X_commonDivisor_20 c15 ?_
          rw [pk_rem (by omega) hy1 (by omega)]
          refine lv_istore (lv' := [(5, .int (nI (x % y))), (2, .int (nI x)), (3, .int (nI y)), (4, .int (nI k))]) hx hb d_X_commonDivisor_21 hl (by decide) rfl (fun ls hl => ?_)
          refine lv_iload_n hx hb d_X_commonDivisor_23 rfl (lv_at hl 2 rfl) ?_
          refine lv_istore_n (lv' := [(2, .int (nI y)), (5, .int (nI (x % y))), (3, .int (nI y)), (4, .int (nI k))]) hx hb d_X_commonDivisor_24 rfl hl (by decide) rfl (fun ls hl => ?_)
          refine lv_iload hx hb d_X_commonDivisor_25 (lv_at hl 1 rfl) ?_
          refine lv_istore_n (lv' := [(3, .int (nI (x % y))), (2, .int (nI y)), (5, .int (nI (x % y))), (4, .int (nI k))]) hx hb d_X_commonDivisor_27 rfl hl (by decide) rfl (fun ls hl => ?_)
          refine lv_iinc (v := (nI k) + 1) (lv' := [(4, .int ((nI k) + 1)), (3, .int (nI (x % y))), (2, .int (nI y)), (5, .int (nI (x % y)))]) hx hb d_X_commonDivisor_28 hl (k := 3) rfl rfl (by decide) rfl (fun ls hl => ?_)
          refine lv_goto (tgt := 7) hx hb d_X_commonDivisor_31 (by decide) ?_
          rw [nI_1] at hl
          have hm : x % y < y := Nat.mod_lt _ hy1
          have hgs := gst_s (n := n) (x := x) hy1
          exact ih y (x % y) (k + 1) ls (by omega) (by omega) (by rw [← hg, Nat.gcd_comm x y, Nat.gcd_rec y x, Nat.gcd_comm]) (by omega) (by omega) (lv_sub hl [2, 1, 0] rfl)
  exact loop 65 a b 0 ls ha hb2 rfl (by have := gst_le 20 65 a b hb2; omega) (by omega) (lv_sub hl [2, 1, 0] rfl)
set_option maxHeartbeats 4000000 in
set_option maxRecDepth 100000 in
theorem c_X_shareR (l : Launch) (g : mm_G) {M0 : mm_M} {x rl yl tl cn dl ia : Nat} {ck : Int64} (hox : M0 x = some (xob rl yl tl cn dl ia ck)) {bA lA : Nat} {fb fl : Nat → Int32} (h0 : Cn g M0 cn bA lA fb fl) {p nb nl : Nat} (hp5 : p < 50) (hfb : fb p = nI nb) (hfl : fl p = nI nl) (hb1 : 0 < nb) (hnb : nb < 2 ^ 20) (hnl : nl < 2 ^ 20) {sd : Int32} (hsd : sd = 0 ∨ sd = 1) : Cl l g y_X_share b_X_share 6 (rk 6 144 1 6) M0 [.ref x, .int (nI p), .int sd] (fun r M' => M' = M0 ∧ r = (if sd = 0 then (nI (nl / Nat.gcd nl nb)).toInt64 else (nI (nb / Nat.gcd nl nb)).toInt64)) := by
  refine mm_enter (by decide) (Nat.le_of_ble_eq_true rfl) (fun pG eV s m args below meth cdx ls Q E hml hr hlk hnm hZ hl eQ => ?_)
  have hx := E.1
  have hb := E.2.1
  have hl : lv_has ls 6 [(0, .ref x), (1, .int (nI p)), (2, .int sd)] := hl
  refine lv_iload_n hx hb d_X_share_0 rfl (lv_at hl 1 rfl) ?_
  refine mm_calli (mm_runS (As := [.int (nI p)]) (rest := []) E hZ hml hl.1 lk_X_55 me_X_isPlace st_X_isPlace (c_X_isPlace l g M0 (nI p)) ⟨Nat.le_of_ble_eq_true rfl, Nat.le_of_ble_eq_true rfl⟩ rfl (Nat.le_of_ble_eq_true rfl) d_X_share_1 ⟨Nat.le_of_ble_eq_true rfl, Nat.le_of_ble_eq_true rfl⟩) hZ (fun r1 M1 H locs hp hZ => ?_)
  rw [hp.1] at hZ
  replace hp := hp.2
  refine lv_if_ne (tgt := 11) hx hb d_X_share_4 (by decide) (fun c4 => ?_) (fun c4 => ?_)
  · clear hp
    refine lv_iload_n hx hb d_X_share_11 rfl (lv_at hl 2 rfl) ?_
    refine lv_if_eq (tgt := 24) hx hb d_X_share_12 (by decide) (fun c12 => ?_) (fun c12 => ?_)
    · refine lv_aload_n hx hb d_X_share_24 rfl (lv_at hl 0 rfl) ?_
      refine mm_get E hZ cl_X fl_X_33 (by decide) hox rfl d_X_share_25 ?_
      refine lv_iload_n hx hb d_X_share_28 rfl (lv_at hl 1 rfl) ?_
      refine mm_calli (mm_runV (As := [.int (nI p)]) (rest := []) E hZ hml hl.1 lk_X_130 me_Cnts_lateAt in_Cnts_lateAt (c_Cnts_lateAt l g h0 hp5) h0.1 cl_Cnts.1 ⟨Nat.le_of_ble_eq_true rfl, Nat.le_of_ble_eq_true rfl⟩ rfl (Nat.le_of_ble_eq_true rfl) d_X_share_29 ⟨Nat.le_of_ble_eq_true rfl, Nat.le_of_ble_eq_true rfl⟩) hZ (fun rl0 M1 H locs hp hZ => ?_)
      rw [hp.1] at hZ
      replace hp := hp.2
      rw [hfl] at hp
      subst hp
      refine lv_istore_n (lv' := [(3, .int (nI nl)), (0, .ref x), (1, .int (nI p)), (2, .int sd)]) hx hb d_X_share_32 rfl hl (by decide) rfl (fun ls hl => ?_)
      refine lv_aload_n hx hb d_X_share_33 rfl (lv_at hl 1 rfl) ?_
      refine mm_get E hZ cl_X fl_X_33 (by decide) hox rfl d_X_share_34 ?_
      refine lv_iload_n hx hb d_X_share_37 rfl (lv_at hl 2 rfl) ?_
      refine mm_calli (mm_runV (As := [.int (nI p)]) (rest := []) E hZ hml hl.1 lk_X_134 me_Cnts_begunAt in_Cnts_begunAt (c_Cnts_begunAt l g h0 hp5) h0.1 cl_Cnts.1 ⟨Nat.le_of_ble_eq_true rfl, Nat.le_of_ble_eq_true rfl⟩ rfl (Nat.le_of_ble_eq_true rfl) d_X_share_38 ⟨Nat.le_of_ble_eq_true rfl, Nat.le_of_ble_eq_true rfl⟩) hZ (fun rb0 M1 H locs hp hZ => ?_)
      rw [hp.1] at hZ
      replace hp := hp.2
      rw [hfb] at hp
      subst hp
      refine lv_istore (lv' := [(4, .int (nI nb)), (3, .int (nI nl)), (0, .ref x), (1, .int (nI p)), (2, .int sd)]) hx hb d_X_share_41 hl (by decide) rfl (fun ls hl => ?_)
      refine lv_iload hx hb d_X_share_43 (lv_at hl 0 rfl) ?_
      refine lv_if_gt (tgt := 58) hx hb d_X_share_45 (by decide) (fun c45 => ?_) (fun c45 => ?_)
      · refine lv_iload_n hx hb d_X_share_58 rfl (lv_at hl 1 rfl) ?_
        refine lv_iload hx hb d_X_share_59 (lv_at hl 0 rfl) ?_
        refine mm_calli (mm_runS (As := [.int (nI nl), .int (nI nb)]) (rest := []) E hZ hml hl.1 lk_X_144 me_X_commonDivisor st_X_commonDivisor (c_X_commonDivisor l g hnl hnb) ⟨Nat.le_of_ble_eq_true rfl, Nat.le_of_ble_eq_true rfl⟩ rfl (Nat.le_of_ble_eq_true rfl) d_X_share_61 ⟨Nat.le_of_ble_eq_true rfl, Nat.le_of_ble_eq_true rfl⟩) hZ (fun rg M1 H locs hp hZ => ?_)
        rw [hp.1] at hZ
        replace hp := hp.2
        have hgp : 0 < Nat.gcd nl nb := Nat.gcd_pos_of_pos_right nl hb1
        rw [if_neg (by omega)] at hp
        subst hp
        have hgl := gcd_lt hnl hnb
        refine lv_istore (lv' := [(5, .int (nI (Nat.gcd nl nb))), (4, .int (nI nb)), (3, .int (nI nl)), (0, .ref x), (1, .int (nI p)), (2, .int sd)]) hx hb d_X_share_64 hl (by decide) rfl (fun ls hl => ?_)
        refine lv_iload_n hx hb d_X_share_66 rfl (lv_at hl 5 rfl) ?_
        refine lv_if_ne (tgt := 78) hx hb d_X_share_67 (by decide) (fun c67 => ?_) (fun c67 => ?_)
        · refine lv_iload hx hb d_X_share_78 (lv_at hl 1 rfl) ?_
          refine lv_iload hx hb d_X_share_80 (lv_at hl 0 rfl) ?_
          refine lv_idiv hx hb d_X_share_82 (nI_ne0 hgp (by omega)) ?_
          rw [pk_div (by omega) hgp (by omega)]
          refine lv_i2l hx hb d_X_share_83 rfl ?_
          refine W.widen (k := 1) (n := 6) (Nat.le_of_ble_eq_true rfl) (Nat.le_of_ble_eq_true rfl) ?_
          exact mm_lret (v := (nI (nb / Nat.gcd nl nb)).toInt64) E hr hlk eQ hZ d_X_share_84 ⟨_, rfl, rfl, by rw [if_neg c67]⟩
        · refine lv_iload_n hx hb d_X_share_70 rfl (lv_at hl 2 rfl) ?_
          refine lv_iload hx hb d_X_share_71 (lv_at hl 0 rfl) ?_
          refine lv_idiv hx hb d_X_share_73 (nI_ne0 hgp (by omega)) ?_
          rw [pk_div (by omega) hgp (by omega)]
          refine lv_i2l hx hb d_X_share_74 rfl ?_
          refine lv_goto (tgt := 84) hx hb d_X_share_75 (by decide) ?_
          refine W.widen (k := 1) (n := 6) (Nat.le_of_ble_eq_true rfl) (Nat.le_of_ble_eq_true rfl) ?_
          exact mm_lret (v := (nI (nl / Nat.gcd nl nb)).toInt64) E hr hlk eQ hZ d_X_share_84 ⟨_, rfl, rfl, by rw [if_pos c67]⟩
      · exact absurd (show (0 : Int32) < nI nb from nI_lt (a := 0) hb1 (by omega)) c45
    · refine lv_iload_n hx hb d_X_share_15 rfl (lv_at hl 2 rfl) ?_
      refine lv_iconst (v := 1) hx hb d_X_share_16 (by decide) ?_
      refine lv_icmp_eq (tgt := 24) hx hb d_X_share_17 (by decide) (fun c17 => ?_) (fun c17 => ?_)
      · refine lv_aload_n hx hb d_X_share_24 rfl (lv_at hl 0 rfl) ?_
        refine mm_get E hZ cl_X fl_X_33 (by decide) hox rfl d_X_share_25 ?_
        refine lv_iload_n hx hb d_X_share_28 rfl (lv_at hl 1 rfl) ?_
        refine mm_calli (mm_runV (As := [.int (nI p)]) (rest := []) E hZ hml hl.1 lk_X_130 me_Cnts_lateAt in_Cnts_lateAt (c_Cnts_lateAt l g h0 hp5) h0.1 cl_Cnts.1 ⟨Nat.le_of_ble_eq_true rfl, Nat.le_of_ble_eq_true rfl⟩ rfl (Nat.le_of_ble_eq_true rfl) d_X_share_29 ⟨Nat.le_of_ble_eq_true rfl, Nat.le_of_ble_eq_true rfl⟩) hZ (fun rl0 M1 H locs hp hZ => ?_)
        rw [hp.1] at hZ
        replace hp := hp.2
        rw [hfl] at hp
        subst hp
        refine lv_istore_n (lv' := [(3, .int (nI nl)), (0, .ref x), (1, .int (nI p)), (2, .int sd)]) hx hb d_X_share_32 rfl hl (by decide) rfl (fun ls hl => ?_)
        refine lv_aload_n hx hb d_X_share_33 rfl (lv_at hl 1 rfl) ?_
        refine mm_get E hZ cl_X fl_X_33 (by decide) hox rfl d_X_share_34 ?_
        refine lv_iload_n hx hb d_X_share_37 rfl (lv_at hl 2 rfl) ?_
        refine mm_calli (mm_runV (As := [.int (nI p)]) (rest := []) E hZ hml hl.1 lk_X_134 me_Cnts_begunAt in_Cnts_begunAt (c_Cnts_begunAt l g h0 hp5) h0.1 cl_Cnts.1 ⟨Nat.le_of_ble_eq_true rfl, Nat.le_of_ble_eq_true rfl⟩ rfl (Nat.le_of_ble_eq_true rfl) d_X_share_38 ⟨Nat.le_of_ble_eq_true rfl, Nat.le_of_ble_eq_true rfl⟩) hZ (fun rb0 M1 H locs hp hZ => ?_)
        rw [hp.1] at hZ
        replace hp := hp.2
        rw [hfb] at hp
        subst hp
        refine lv_istore (lv' := [(4, .int (nI nb)), (3, .int (nI nl)), (0, .ref x), (1, .int (nI p)), (2, .int sd)]) hx hb d_X_share_41 hl (by decide) rfl (fun ls hl => ?_)
        refine lv_iload hx hb d_X_share_43 (lv_at hl 0 rfl) ?_
        refine lv_if_gt (tgt := 58) hx hb d_X_share_45 (by decide) (fun c45 => ?_) (fun c45 => ?_)
        · refine lv_iload_n hx hb d_X_share_58 rfl (lv_at hl 1 rfl) ?_
          refine lv_iload hx hb d_X_share_59 (lv_at hl 0 rfl) ?_
          refine mm_calli (mm_runS (As := [.int (nI nl), .int (nI nb)]) (rest := []) E hZ hml hl.1 lk_X_144 me_X_commonDivisor st_X_commonDivisor (c_X_commonDivisor l g hnl hnb) ⟨Nat.le_of_ble_eq_true rfl, Nat.le_of_ble_eq_true rfl⟩ rfl (Nat.le_of_ble_eq_true rfl) d_X_share_61 ⟨Nat.le_of_ble_eq_true rfl, Nat.le_of_ble_eq_true rfl⟩) hZ (fun rg M1 H locs hp hZ => ?_)
          rw [hp.1] at hZ
          replace hp := hp.2
          have hgp : 0 < Nat.gcd nl nb := Nat.gcd_pos_of_pos_right nl hb1
          rw [if_neg (by omega)] at hp
          subst hp
          have hgl := gcd_lt hnl hnb
          refine lv_istore (lv' := [(5, .int (nI (Nat.gcd nl nb))), (4, .int (nI nb)), (3, .int (nI nl)), (0, .ref x), (1, .int (nI p)), (2, .int sd)]) hx hb d_X_share_64 hl (by decide) rfl (fun ls hl => ?_)
          refine lv_iload_n hx hb d_X_share_66 rfl (lv_at hl 5 rfl) ?_
          refine lv_if_ne (tgt := 78) hx hb d_X_share_67 (by decide) (fun c67 => ?_) (fun c67 => ?_)
          · refine lv_iload hx hb d_X_share_78 (lv_at hl 1 rfl) ?_
            refine lv_iload hx hb d_X_share_80 (lv_at hl 0 rfl) ?_
            refine lv_idiv hx hb d_X_share_82 (nI_ne0 hgp (by omega)) ?_
            rw [pk_div (by omega) hgp (by omega)]
            refine lv_i2l hx hb d_X_share_83 rfl ?_
            refine W.widen (k := 1) (n := 6) (Nat.le_of_ble_eq_true rfl) (Nat.le_of_ble_eq_true rfl) ?_
            exact mm_lret (v := (nI (nb / Nat.gcd nl nb)).toInt64) E hr hlk eQ hZ d_X_share_84 ⟨_, rfl, rfl, by rw [if_neg c67]⟩
          · refine lv_iload_n hx hb d_X_share_70 rfl (lv_at hl 2 rfl) ?_
            refine lv_iload hx hb d_X_share_71 (lv_at hl 0 rfl) ?_
            refine lv_idiv hx hb d_X_share_73 (nI_ne0 hgp (by omega)) ?_
            rw [pk_div (by omega) hgp (by omega)]
            refine lv_i2l hx hb d_X_share_74 rfl ?_
            refine lv_goto (tgt := 84) hx hb d_X_share_75 (by decide) ?_
            refine W.widen (k := 1) (n := 6) (Nat.le_of_ble_eq_true rfl) (Nat.le_of_ble_eq_true rfl) ?_
            exact mm_lret (v := (nI (nl / Nat.gcd nl nb)).toInt64) E hr hlk eQ hZ d_X_share_84 ⟨_, rfl, rfl, by rw [if_pos c67]⟩
        · exact absurd (show (0 : Int32) < nI nb from nI_lt (a := 0) hb1 (by omega)) c45
      · exact hsd.elim (fun z => absurd z c12) (fun z => absurd z c17)
  · exact absurd (pl_in hp5) (b32_eq0.mp (hp ▸ c4))
