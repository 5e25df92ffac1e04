/-! THE LAW: its method share, where the class answers -/
set_option maxHeartbeats 4000000 in
set_option maxRecDepth 100000 in
theorem c_Law_shareR (l : Launch) (g : mm_G) {M0 : mm_M} {x rl yl tl cn dl ia : Nat} {ck : Int64} (hox : M0 x = some (xob rl yl tl cn dl ia ck)) {bA lA : Nat} {fb fl : Nat → Int32} (h0 : Cn g M0 cn bA lA fb fl) {p nb nl : Nat} (hp5 : p < 50) (hfb : fb p = nI nb) (hfl : fl p = nI nl) (hb1 : 0 < nb) (hnb : nb < 2 ^ 20) (hnl : nl < 2 ^ 20) {sd : Int32} (hsd : sd = 0 ∨ sd = 1) {o3 : Nat} {fo : Nat → Int64} (ho3 : M0 o3 = some (al 50 (g.2.2 1) 1 fo)) : CtW l g y_Law_share b_Law_share 5 (some .int) hh_share (rk 7 169 1 6) M0 [.ref x, .int (nI p), .int sd, .ref o3] (fun v M' => ∃ r, v = some (.int r) ∧ r = 0 ∧ ∃ rs, M' = mm_up M0 o3 (al 50 (g.2.2 1) 1 (va_up fo 0 rs)) ∧ rs = (if sd = 0 then (nI (nl / Nat.gcd nl nb)).toInt64 else (nI (nb / Nat.gcd nl nb)).toInt64)) := by
  refine mm_enterW (by decide) (Nat.le_of_ble_eq_true rfl) (fun pG eV s m args below meth cdx ls Q E hml hr hlk htab hZ hl eQ => ?_)
  have hx := E.1
  have hb := E.2.1
  have hl : lv_has ls 5 [(0, .ref x), (1, .int (nI p)), (2, .int sd), (3, .ref o3)] := hl
  refine lv_aload_n hx hb d_Law_share_0 rfl (lv_at hl 3 rfl) ?_
  refine lv_iconst (v := 0) hx hb d_Law_share_1 (by decide) ?_
  refine lv_aload_n hx hb d_Law_share_2 rfl (lv_at hl 0 rfl) ?_
  refine lv_iload_n hx hb d_Law_share_3 rfl (lv_at hl 1 rfl) ?_
  refine lv_iload_n hx hb d_Law_share_4 rfl (lv_at hl 2 rfl) ?_
  refine mm_calll (mm_runV (As := [.int (nI p), .int sd]) (rest := [.int 0, .ref o3]) E hZ hml hl.1 lk_Law_7 me_X_share in_X_share (c_X_shareR l g hox h0 hp5 hfb hfl hb1 hnb hnl hsd) hox cl_X.1 ⟨Nat.le_of_ble_eq_true rfl, Nat.le_of_ble_eq_true rfl⟩ rfl (Nat.le_of_ble_eq_true rfl) d_Law_share_5 ⟨Nat.le_of_ble_eq_true rfl, Nat.le_of_ble_eq_true rfl⟩) hZ (fun rs M1 H locs hp hZ => ?_)
  rw [hp.1] at hZ
  replace hp := hp.2
  refine mm_last (t0 := 1) E hZ ho3 rfl (by decide) rfl (show 0 < 1 by omega) (by decide) d_Law_share_8 (fun H locs hZ => ?_)
  obtain ⟨M1, eM1⟩ : ∃ zz : mm_M, zz = mm_up M0 o3 (al 50 (g.2.2 1) 1 (va_up fo 0 rs)) := ⟨_, rfl⟩
  have hZ : mm_S g s M1 H locs := by rw [eM1]; exact hZ
  have h2 := (congrFun eM1 o3).trans (mm_self _ _ _)
  refine lv_goto (tgt := 16) hx hb d_Law_share_9 (by decide) ?_
  refine lv_iconst (v := 0) hx hb d_Law_share_16 (by decide) ?_
  exact mm_iret (v := 0) E hr hlk eQ hZ d_Law_share_17 ⟨_, rfl, rfl, rs, eM1, hp⟩
