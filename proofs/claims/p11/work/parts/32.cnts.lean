/-! THE CLASS: PlaceCounts -/
def Cn (g : mm_G) (M : mm_M) (o bA lA : Nat) (fb fl : Nat → Int32) : Prop := M o = some (ob 5 6 [.ref bA, .ref lA]) ∧ M bA = some (ai 13 (g.2.2 0) 50 fb) ∧ M lA = some (ai 14 (g.2.2 0) 50 fl)
abbrev bfx (fb fl : Nat → Int32) (a b : Nat) : Prop := (fl b).toInt64 * (fb a).toInt64 < (fl a).toInt64 * (fb b).toInt64 ∨ ((fl a).toInt64 * (fb b).toInt64 = (fl b).toInt64 * (fb a).toInt64 ∧ nI a < nI b)
/-- how many of the first k places are clusters that come before p -/
def cbN (fb fl : Nat → Int32) (p : Nat) : Nat → Nat
  | 0 => 0
  | k + 1 => if 3 ≤ fl k ∧ bfx fb fl k p then cbN fb fl p k + 1 else cbN fb fl p k
theorem cbN_le (fb fl : Nat → Int32) (p k : Nat) : cbN fb fl p k ≤ k := by
  induction k with
  | zero => exact Nat.le_refl _
  | succ k ih => unfold cbN; split <;> omega
theorem pl_in {p : Nat} (h : p < 50) : 0 ≤ nI p ∧ nI p < 50 := ⟨nI_pos' (by omega), nI_lt h (by decide)⟩
set_option maxHeartbeats 4000000 in
set_option maxRecDepth 100000 in
theorem c_Cnts_init (l : Launch) (g : mm_G) {M0 : mm_M} {o : Nat} (h0 : M0 o = some (ob 5 6 [.null, .null])) : Cv l g y_Cnts_init b_Cnts_init 1 (rk 1 20 2 100) M0 [.ref o] (fun M' => ∃ bA lA, Cn g M' o bA lA (fun _ => 0) (fun _ => 0) ∧ ∀ t, t ≠ 5 → t ≠ 13 → t ≠ 14 → mm_same t M0 M') := by
  refine mm_enter (by decide) (Nat.le_of_ble_eq_true rfl) (fun pG eV s m args below meth cdx ls Q E hml hr hlk hnm hZ hl eQ => ?_)
  have hx := E.1
  have hb := E.2.1
  have hl : lv_has ls 1 [(0, .ref o)] := hl
  refine lv_aload_n hx hb d_Cnts_init_0 rfl (lv_at hl 0 rfl) ?_
  refine mm_objI E hml hl.1 w_102 w_30 w_31 (Nat.le_of_ble_eq_true rfl) (Nat.le_of_ble_eq_true rfl) d_Cnts_init_1 ?_
  refine lv_aload_n hx hb d_Cnts_init_4 rfl (lv_at hl 0 rfl) ?_
  refine lv_bipush (v := 50) hx hb d_Cnts_init_5 (by decide) ?_
  refine mm_newi 13 (t0 := 0) (cA := g.2.2 0) (N := 50) E hZ rfl w_110 (by decide) (by decide) (by decide) (Nat.le_of_ble_eq_true rfl) (Nat.le_of_ble_eq_true rfl) d_Cnts_init_7 (fun bA H hBb hNb hZ => ?_)
  obtain ⟨Ma, eMa⟩ : ∃ zz : mm_M, zz = mm_up M0 bA (ai 13 (g.2.2 0) 50 (fun _ => 0)) := ⟨_, rfl⟩
  have hZ : mm_S g s Ma H [] := by rw [eMa]; exact hZ
  have h1 := (congrFun eMa o).trans ((mm_ne _ _ (mm_apartN h0 hNb)).trans h0)
  have h2 := (congrFun eMa bA).trans (mm_self _ _ _)
  refine mm_putF (k := 0) E hnm hZ cl_Cnts w_103 (by decide) rfl rfl h1 (by decide) rfl rfl (Nat.le_of_ble_eq_true rfl) d_Cnts_init_9 (fun H locs hZ => ?_)
  obtain ⟨M3, eM3⟩ : ∃ zz : mm_M, zz = mm_up Ma o (ob 5 6 [.ref bA, .null]) := ⟨_, rfl⟩
  have hZ : mm_S g s M3 H locs := by rw [eM3]; exact hZ
  have h4 := (congrFun eM3 bA).trans ((mm_ne _ _ (mm_tag h2 h1 (by decide))).trans h2)
  have h5 := (congrFun eM3 o).trans (mm_self _ _ _)
  refine lv_aload_n hx hb d_Cnts_init_12 rfl (lv_at hl 0 rfl) ?_
  refine lv_bipush (v := 50) hx hb d_Cnts_init_13 (by decide) ?_
  refine mm_newi 14 (t0 := 0) (cA := g.2.2 0) (N := 50) E hZ rfl w_110 (by decide) (by decide) (by decide) (Nat.le_of_ble_eq_true rfl) (Nat.le_of_ble_eq_true rfl) d_Cnts_init_15 (fun lA H hBl hNl hZ => ?_)
  obtain ⟨Mc, eMc⟩ : ∃ zz : mm_M, zz = mm_up M3 lA (ai 14 (g.2.2 0) 50 (fun _ => 0)) := ⟨_, rfl⟩
  have hZ : mm_S g s Mc H locs := by rw [eMc]; exact hZ
  have h6 := (congrFun eMc bA).trans ((mm_ne _ _ (mm_apartN h4 hNl)).trans h4)
  have h7 := (congrFun eMc o).trans ((mm_ne _ _ (mm_apartN h5 hNl)).trans h5)
  have h8 := (congrFun eMc lA).trans (mm_self _ _ _)
  refine mm_putF (k := 1) E hnm hZ cl_Cnts w_104 (by decide) rfl rfl h7 (by decide) rfl rfl (Nat.le_of_ble_eq_true rfl) d_Cnts_init_17 (fun H locs hZ => ?_)
  obtain ⟨M9, eM9⟩ : ∃ zz : mm_M, zz = mm_up Mc o (ob 5 6 [.ref bA, .ref lA]) := ⟨_, rfl⟩
  have hZ : mm_S g s M9 H locs := by rw [eM9]; exact hZ
  have h10 := (congrFun eM9 bA).trans ((mm_ne _ _ (mm_tag h6 h7 (by decide))).trans h6)
  have h11 := (congrFun eM9 lA).trans ((mm_ne _ _ (mm_tag h8 h7 (by decide))).trans h8)
  have h12 := (congrFun eM9 o).trans (mm_self _ _ _)
  exact mm_vret E hr hlk eQ hZ d_Cnts_init_20 ⟨rfl, bA, lA, ⟨h12, h10, h11⟩, fun t u5 u13 u14 => by
    rw [eM9]
    refine mm_same.tr ?_ (mm_same.up ((congrFun eMc o).trans ((mm_ne _ _ (mm_apartN h5 hNl)).trans h5)) u5 _)
    rw [eMc]
    refine mm_same.tr ?_ (mm_same.new hNl _)
    rw [eM3]
    refine mm_same.tr ?_ (mm_same.up h1 u5 _)
    rw [eMa]
    exact mm_same.new hNb _⟩
set_option maxHeartbeats 4000000 in
set_option maxRecDepth 100000 in
theorem c_Cnts_addBegun (l : Launch) (g : mm_G) {M0 : mm_M} {o bA lA : Nat} {fb fl : Nat → Int32} (h0 : Cn g M0 o bA lA fb fl) {p : Nat} (hp5 : p < 50) : Cv l g y_Cnts_addBegun b_Cnts_addBegun 2 (rk 1 20 0 0) M0 [.ref o, .int (nI p)] (fun M' => Cn g M' o bA lA (va_up fb p (fb p + 1)) fl ∧ ∀ t, t ≠ 13 → mm_same t M0 M') := by
  refine mm_enter (by decide) (Nat.le_of_ble_eq_true rfl) (fun pG eV s m args below meth cdx ls Q E hml hr hlk hnm hZ hl eQ => ?_)
  have hx := E.1
  have hb := E.2.1
  have hl : lv_has ls 2 [(0, .ref o), (1, .int (nI p))] := hl
  have ho := h0.1
  have hbA := h0.2.1
  have hlA := h0.2.2
  refine lv_iload_n hx hb d_Cnts_addBegun_0 rfl (lv_at hl 1 rfl) ?_
  refine mm_calli (mm_runS (As := [.int (nI p)]) (rest := []) E hZ hml hl.1 lk_Cnts_18 me_X_isPlace st_X_isPlace (c_X_isPlace l g _ (nI p)) ⟨Nat.le_of_ble_eq_true rfl, Nat.le_of_ble_eq_true rfl⟩ rfl (Nat.le_of_ble_eq_true rfl) d_Cnts_addBegun_1 ⟨Nat.le_of_ble_eq_true rfl, Nat.le_of_ble_eq_true rfl⟩) hZ (fun r1 M1 H locs hp hZ => ?_)
  rw [hp.1] at hZ
  replace hp := hp.2
  refine lv_if_eq (tgt := 17) hx hb d_Cnts_addBegun_4 (by decide) (fun c4 => ?_) (fun c4 => ?_)
  · exact absurd (hp ▸ c4) (fun z => b32_eq0.mp z (pl_in hp5))
  · refine lv_aload_n hx hb d_Cnts_addBegun_7 rfl (lv_at hl 0 rfl) ?_
    refine mm_get E hZ cl_Cnts fl_Cnts_9 (by decide) ho rfl d_Cnts_addBegun_8 ?_
    refine lv_iload_n hx hb d_Cnts_addBegun_11 rfl (lv_at hl 1 rfl) ?_
    refine lv_dup2_11 hx hb d_Cnts_addBegun_12 rfl rfl ?_
    refine mm_iald (t0 := 0) E hZ hbA rfl rfl (show p < 50 by omega) (by decide) d_Cnts_addBegun_13 ?_
    refine lv_iconst (v := 1) hx hb d_Cnts_addBegun_14 (by decide) ?_
    refine lv_iadd hx hb d_Cnts_addBegun_15 ?_
    refine mm_iast (t0 := 0) E hZ hbA rfl (by decide) rfl (show p < 50 by omega) (by decide) d_Cnts_addBegun_16 (fun H locs hZ => ?_)
    obtain ⟨M2, eM2⟩ : ∃ zz : mm_M, zz = mm_up M0 bA (ai 13 (g.2.2 0) 50 (va_up fb p ((fb p) + 1))) := ⟨_, rfl⟩
    have hZ : mm_S g s M2 H locs := by rw [eM2]; exact hZ
    have h3 := (congrFun eM2 o).trans ((mm_ne _ _ (mm_tag ho hbA (by decide))).trans ho)
    have h4 := (congrFun eM2 lA).trans ((mm_ne _ _ (mm_tag hlA hbA (by decide))).trans hlA)
    have h5 := (congrFun eM2 bA).trans (mm_self _ _ _)
    exact mm_vret E hr hlk eQ hZ d_Cnts_addBegun_17 ⟨rfl, ⟨h3, h5, h4⟩, fun t ht => by rw [eM2]; exact mm_same.up hbA ht _⟩
set_option maxHeartbeats 4000000 in
set_option maxRecDepth 100000 in
theorem c_Cnts_addLate (l : Launch) (g : mm_G) {M0 : mm_M} {o bA lA : Nat} {fb fl : Nat → Int32} (h0 : Cn g M0 o bA lA fb fl) {p : Nat} (hp5 : p < 50) : Cv l g y_Cnts_addLate b_Cnts_addLate 2 (rk 1 20 0 0) M0 [.ref o, .int (nI p)] (fun M' => Cn g M' o bA lA fb (va_up fl p (fl p + 1)) ∧ ∀ t, t ≠ 14 → mm_same t M0 M') := by
  refine mm_enter (by decide) (Nat.le_of_ble_eq_true rfl) (fun pG eV s m args below meth cdx ls Q E hml hr hlk hnm hZ hl eQ => ?_)
  have hx := E.1
  have hb := E.2.1
  have hl : lv_has ls 2 [(0, .ref o), (1, .int (nI p))] := hl
  have ho := h0.1
  have hbA := h0.2.1
  have hlA := h0.2.2
  refine lv_iload_n hx hb d_Cnts_addLate_0 rfl (lv_at hl 1 rfl) ?_
  refine mm_calli (mm_runS (As := [.int (nI p)]) (rest := []) E hZ hml hl.1 lk_Cnts_18 me_X_isPlace st_X_isPlace (c_X_isPlace l g _ (nI p)) ⟨Nat.le_of_ble_eq_true rfl, Nat.le_of_ble_eq_true rfl⟩ rfl (Nat.le_of_ble_eq_true rfl) d_Cnts_addLate_1 ⟨Nat.le_of_ble_eq_true rfl, Nat.le_of_ble_eq_true rfl⟩) hZ (fun r1 M1 H locs hp hZ => ?_)
  rw [hp.1] at hZ
  replace hp := hp.2
  refine lv_if_eq (tgt := 17) hx hb d_Cnts_addLate_4 (by decide) (fun c4 => ?_) (fun c4 => ?_)
  · exact absurd (hp ▸ c4) (fun z => b32_eq0.mp z (pl_in hp5))
  · refine lv_aload_n hx hb d_Cnts_addLate_7 rfl (lv_at hl 0 rfl) ?_
    refine mm_get E hZ cl_Cnts fl_Cnts_15 (by decide) ho rfl d_Cnts_addLate_8 ?_
    refine lv_iload_n hx hb d_Cnts_addLate_11 rfl (lv_at hl 1 rfl) ?_
    refine lv_dup2_11 hx hb d_Cnts_addLate_12 rfl rfl ?_
    refine mm_iald (t0 := 0) E hZ hlA rfl rfl (show p < 50 by omega) (by decide) d_Cnts_addLate_13 ?_
    refine lv_iconst (v := 1) hx hb d_Cnts_addLate_14 (by decide) ?_
    refine lv_iadd hx hb d_Cnts_addLate_15 ?_
    refine mm_iast (t0 := 0) E hZ hlA rfl (by decide) rfl (show p < 50 by omega) (by decide) d_Cnts_addLate_16 (fun H locs hZ => ?_)
    obtain ⟨M2, eM2⟩ : ∃ zz : mm_M, zz = mm_up M0 lA (ai 14 (g.2.2 0) 50 (va_up fl p ((fl p) + 1))) := ⟨_, rfl⟩
    have hZ : mm_S g s M2 H locs := by rw [eM2]; exact hZ
    have h3 := (congrFun eM2 o).trans ((mm_ne _ _ (mm_tag ho hlA (by decide))).trans ho)
    have h4 := (congrFun eM2 bA).trans ((mm_ne _ _ (mm_tag hbA hlA (by decide))).trans hbA)
    have h5 := (congrFun eM2 lA).trans (mm_self _ _ _)
    exact mm_vret E hr hlk eQ hZ d_Cnts_addLate_17 ⟨rfl, ⟨h3, h4, h5⟩, fun t ht => by rw [eM2]; exact mm_same.up hlA ht _⟩
set_option maxHeartbeats 4000000 in
set_option maxRecDepth 100000 in
theorem c_Cnts_begunAt (l : Launch) (g : mm_G) {M0 : mm_M} {o bA lA : Nat} {fb fl : Nat → Int32} (h0 : Cn g M0 o bA lA fb fl) {p : Nat} (hp5 : p < 50) : Ci l g y_Cnts_begunAt b_Cnts_begunAt 2 .int (rk 1 20 0 0) M0 [.ref o, .int (nI p)] (fun r M' => M' = M0 ∧ r = fb p) := by
  refine mm_enter (by decide) (Nat.le_of_ble_eq_true rfl) (fun pG eV s m args below meth cdx ls Q E hml hr hlk hnm hZ hl eQ => ?_)
  have hx := E.1
  have hb := E.2.1
  have hl : lv_has ls 2 [(0, .ref o), (1, .int (nI p))] := hl
  have ho := h0.1
  have hbA := h0.2.1
  have hlA := h0.2.2
  refine lv_iload_n hx hb d_Cnts_begunAt_0 rfl (lv_at hl 1 rfl) ?_
  refine mm_calli (mm_runS (As := [.int (nI p)]) (rest := []) E hZ hml hl.1 lk_Cnts_18 me_X_isPlace st_X_isPlace (c_X_isPlace l g _ (nI p)) ⟨Nat.le_of_ble_eq_true rfl, Nat.le_of_ble_eq_true rfl⟩ rfl (Nat.le_of_ble_eq_true rfl) d_Cnts_begunAt_1 ⟨Nat.le_of_ble_eq_true rfl, Nat.le_of_ble_eq_true rfl⟩) hZ (fun r1 M1 H locs hp hZ => ?_)
  rw [hp.1] at hZ
  replace hp := hp.2
  refine lv_if_eq (tgt := 16) hx hb d_Cnts_begunAt_4 (by decide) (fun c4 => ?_) (fun c4 => ?_)
  · exact absurd (hp ▸ c4) (fun z => b32_eq0.mp z (pl_in hp5))
  · refine lv_aload_n hx hb d_Cnts_begunAt_7 rfl (lv_at hl 0 rfl) ?_
    refine mm_get E hZ cl_Cnts fl_Cnts_9 (by decide) ho rfl d_Cnts_begunAt_8 ?_
    refine lv_iload_n hx hb d_Cnts_begunAt_11 rfl (lv_at hl 1 rfl) ?_
    refine mm_iald (t0 := 0) E hZ hbA rfl rfl (show p < 50 by omega) (by decide) d_Cnts_begunAt_12 ?_
    refine lv_goto (tgt := 17) hx hb d_Cnts_begunAt_13 (by decide) ?_
    exact mm_iret (v := fb p) E hr hlk eQ hZ d_Cnts_begunAt_17 ⟨_, rfl, rfl, rfl⟩
set_option maxHeartbeats 4000000 in
set_option maxRecDepth 100000 in
theorem c_Cnts_lateAt (l : Launch) (g : mm_G) {M0 : mm_M} {o bA lA : Nat} {fb fl : Nat → Int32} (h0 : Cn g M0 o bA lA fb fl) {p : Nat} (hp5 : p < 50) : Ci l g y_Cnts_lateAt b_Cnts_lateAt 2 .int (rk 1 20 0 0) M0 [.ref o, .int (nI p)] (fun r M' => M' = M0 ∧ r = fl p) := by
  refine mm_enter (by decide) (Nat.le_of_ble_eq_true rfl) (fun pG eV s m args below meth cdx ls Q E hml hr hlk hnm hZ hl eQ => ?_)
  have hx := E.1
  have hb := E.2.1
  have hl : lv_has ls 2 [(0, .ref o), (1, .int (nI p))] := hl
  have ho := h0.1
  have hbA := h0.2.1
  have hlA := h0.2.2
  refine lv_iload_n hx hb d_Cnts_lateAt_0 rfl (lv_at hl 1 rfl) ?_
  refine mm_calli (mm_runS (As := [.int (nI p)]) (rest := []) E hZ hml hl.1 lk_Cnts_18 me_X_isPlace st_X_isPlace (c_X_isPlace l g _ (nI p)) ⟨Nat.le_of_ble_eq_true rfl, Nat.le_of_ble_eq_true rfl⟩ rfl (Nat.le_of_ble_eq_true rfl) d_Cnts_lateAt_1 ⟨Nat.le_of_ble_eq_true rfl, Nat.le_of_ble_eq_true rfl⟩) hZ (fun r1 M1 H locs hp hZ => ?_)
  rw [hp.1] at hZ
  replace hp := hp.2
  refine lv_if_eq (tgt := 16) hx hb d_Cnts_lateAt_4 (by decide) (fun c4 => ?_) (fun c4 => ?_)
  · exact absurd (hp ▸ c4) (fun z => b32_eq0.mp z (pl_in hp5))
  · refine lv_aload_n hx hb d_Cnts_lateAt_7 rfl (lv_at hl 0 rfl) ?_
    refine mm_get E hZ cl_Cnts fl_Cnts_15 (by decide) ho rfl d_Cnts_lateAt_8 ?_
    refine lv_iload_n hx hb d_Cnts_lateAt_11 rfl (lv_at hl 1 rfl) ?_
    refine mm_iald (t0 := 0) E hZ hlA rfl rfl (show p < 50 by omega) (by decide) d_Cnts_lateAt_12 ?_
    refine lv_goto (tgt := 17) hx hb d_Cnts_lateAt_13 (by decide) ?_
    exact mm_iret (v := fl p) E hr hlk eQ hZ d_Cnts_lateAt_17 ⟨_, rfl, rfl, rfl⟩
set_option maxHeartbeats 4000000 in
set_option maxRecDepth 100000 in
theorem c_Cnts_isCluster (l : Launch) (g : mm_G) {M0 : mm_M} {o bA lA : Nat} {fb fl : Nat → Int32} (h0 : Cn g M0 o bA lA fb fl) {p : Nat} (hp5 : p < 50) : Ci l g y_Cnts_isCluster b_Cnts_isCluster 2 .boolean (rk 2 41 0 0) M0 [.ref o, .int (nI p)] (fun r M' => M' = M0 ∧ r = b32 (3 ≤ fl p)) := by
  refine mm_enter (by decide) (Nat.le_of_ble_eq_true rfl) (fun pG eV s m args below meth cdx ls Q E hml hr hlk hnm hZ hl eQ => ?_)
  have hx := E.1
  have hb := E.2.1
  have hl : lv_has ls 2 [(0, .ref o), (1, .int (nI p))] := hl
  have ho := h0.1
  have hbA := h0.2.1
  have hlA := h0.2.2
  refine lv_aload_n hx hb d_Cnts_isCluster_0 rfl (lv_at hl 0 rfl) ?_
  refine lv_iload_n hx hb d_Cnts_isCluster_1 rfl (lv_at hl 1 rfl) ?_
  refine mm_calli (mm_runV (As := [.int (nI p)]) (rest := []) E hZ hml hl.1 lk_Cnts_22 me_Cnts_lateAt in_Cnts_lateAt (c_Cnts_lateAt l g h0 hp5) ho cl_Cnts.1 ⟨Nat.le_of_ble_eq_true rfl, Nat.le_of_ble_eq_true rfl⟩ rfl (Nat.le_of_ble_eq_true rfl) d_Cnts_isCluster_2 ⟨Nat.le_of_ble_eq_true rfl, Nat.le_of_ble_eq_true rfl⟩) hZ (fun r1 M1 H locs hp hZ => ?_)
  rw [hp.1] at hZ
  replace hp := hp.2
  subst hp
  refine lv_iconst (v := 3) hx hb d_Cnts_isCluster_5 (by decide) ?_
  refine lv_icmp_lt (tgt := 13) hx hb d_Cnts_isCluster_6 (by decide) (fun c6 => ?_) (fun c6 => ?_)
  · refine lv_iconst (v := 0) hx hb d_Cnts_isCluster_13 (by decide) ?_
    exact mm_zret (v := 0) E hr hlk eQ hZ rfl d_Cnts_isCluster_14 ⟨_, rfl, rfl, b32_f (fun z => absurd z (Int32.not_le.mpr c6))⟩
  · refine lv_iconst (v := 1) hx hb d_Cnts_isCluster_9 (by decide) ?_
    refine lv_goto (tgt := 14) hx hb d_Cnts_isCluster_10 (by decide) ?_
    exact mm_zret (v := 1) E hr hlk eQ hZ rfl d_Cnts_isCluster_14 ⟨_, rfl, rfl, b32_t (Int32.not_lt.mp c6)⟩
set_option maxHeartbeats 4000000 in
set_option maxRecDepth 100000 in
theorem c_Cnts_comesBefore (l : Launch) (g : mm_G) {M0 : mm_M} {o bA lA : Nat} {fb fl : Nat → Int32} (h0 : Cn g M0 o bA lA fb fl) {a b : Nat} (ha : a < 50) (hb5 : b < 50) : Ci l g y_Cnts_comesBefore b_Cnts_comesBefore 7 .boolean (rk 2 41 0 0) M0 [.ref o, .int (nI a), .int (nI b)] (fun r M' => M' = M0 ∧ r = b32 (bfx fb fl a b)) := by
  refine mm_enter (by decide) (Nat.le_of_ble_eq_true rfl) (fun pG eV s m args below meth cdx ls Q E hml hr hlk hnm hZ hl eQ => ?_)
  have hx := E.1
  have hb := E.2.1
  have hl : lv_has ls 7 [(0, .ref o), (1, .int (nI a)), (2, .int (nI b))] := hl
  have ho := h0.1
  have hbA := h0.2.1
  have hlA := h0.2.2
  refine lv_aload_n hx hb d_Cnts_comesBefore_0 rfl (lv_at hl 0 rfl) ?_
  refine lv_iload_n hx hb d_Cnts_comesBefore_1 rfl (lv_at hl 1 rfl) ?_
  refine mm_calli (mm_runV (As := [.int (nI a)]) (rest := []) E hZ hml hl.1 lk_Cnts_22 me_Cnts_lateAt in_Cnts_lateAt (c_Cnts_lateAt l g h0 ha) ho cl_Cnts.1 ⟨Nat.le_of_ble_eq_true rfl, Nat.le_of_ble_eq_true rfl⟩ rfl (Nat.le_of_ble_eq_true rfl) d_Cnts_comesBefore_2 ⟨Nat.le_of_ble_eq_true rfl, Nat.le_of_ble_eq_true rfl⟩) hZ (fun r1 M1 H locs hp hZ => ?_)
  rw [hp.1] at hZ
  replace hp := hp.2
  subst hp
  refine lv_i2l hx hb d_Cnts_comesBefore_5 rfl ?_
  refine lv_aload_n hx hb d_Cnts_comesBefore_6 rfl (lv_at hl 0 rfl) ?_
  refine lv_iload_n hx hb d_Cnts_comesBefore_7 rfl (lv_at hl 2 rfl) ?_
  refine mm_calli (mm_runV (As := [.int (nI b)]) (rest := [.long ((fl a).toInt64)]) E hZ hml hl.1 lk_Cnts_36 me_Cnts_begunAt in_Cnts_begunAt (c_Cnts_begunAt l g h0 hb5) ho cl_Cnts.1 ⟨Nat.le_of_ble_eq_true rfl, Nat.le_of_ble_eq_true rfl⟩ rfl (Nat.le_of_ble_eq_true rfl) d_Cnts_comesBefore_8 ⟨Nat.le_of_ble_eq_true rfl, Nat.le_of_ble_eq_true rfl⟩) hZ (fun r2 M1 H locs hp hZ => ?_)
  rw [hp.1] at hZ
  replace hp := hp.2
  subst hp
  refine lv_i2l hx hb d_Cnts_comesBefore_11 rfl ?_
  refine lv_lmul hx hb d_Cnts_comesBefore_12 ?_
  refine lv_lstore_n (lv' := [(3, .long (((fl a).toInt64) * ((fb b).toInt64))), (0, .ref o), (1, .int (nI a)), (2, .int (nI b))]) hx hb d_Cnts_comesBefore_13 rfl hl (by decide) rfl (fun ls hl => ?_)
  refine lv_aload_n hx hb d_Cnts_comesBefore_14 rfl (lv_at hl 1 rfl) ?_
  refine lv_iload_n hx hb d_Cnts_comesBefore_15 rfl (lv_at hl 3 rfl) ?_
  refine mm_calli (mm_runV (As := [.int (nI b)]) (rest := []) E hZ hml hl.1 lk_Cnts_22 me_Cnts_lateAt in_Cnts_lateAt (c_Cnts_lateAt l g h0 hb5) ho cl_Cnts.1 ⟨Nat.le_of_ble_eq_true rfl, Nat.le_of_ble_eq_true rfl⟩ rfl (Nat.le_of_ble_eq_true rfl) d_Cnts_comesBefore_16 ⟨Nat.le_of_ble_eq_true rfl, Nat.le_of_ble_eq_true rfl⟩) hZ (fun r3 M1 H locs hp hZ => ?_)
  rw [hp.1] at hZ
  replace hp := hp.2
  subst hp
  refine lv_i2l hx hb d_Cnts_comesBefore_19 rfl ?_
  refine lv_aload_n hx hb d_Cnts_comesBefore_20 rfl (lv_at hl 1 rfl) ?_
  refine lv_iload_n hx hb d_Cnts_comesBefore_21 rfl (lv_at hl 2 rfl) ?_
  refine mm_calli (mm_runV (As := [.int (nI a)]) (rest := [.long ((fl b).toInt64)]) E hZ hml hl.1 lk_Cnts_36 me_Cnts_begunAt in_Cnts_begunAt (c_Cnts_begunAt l g h0 ha) ho cl_Cnts.1 ⟨Nat.le_of_ble_eq_true rfl, Nat.le_of_ble_eq_true rfl⟩ rfl (Nat.le_of_ble_eq_true rfl) d_Cnts_comesBefore_22 ⟨Nat.le_of_ble_eq_true rfl, Nat.le_of_ble_eq_true rfl⟩) hZ (fun r4 M1 H locs hp hZ => ?_)
  rw [hp.1] at hZ
  replace hp := hp.2
  subst hp
  refine lv_i2l hx hb d_Cnts_comesBefore_25 rfl ?_
  refine lv_lmul hx hb d_Cnts_comesBefore_26 ?_
  refine lv_lstore (lv' := [(5, .long (((fl b).toInt64) * ((fb a).toInt64))), (3, .long (((fl a).toInt64) * ((fb b).toInt64))), (0, .ref o), (1, .int (nI a)), (2, .int (nI b))]) hx hb d_Cnts_comesBefore_27 hl (by decide) rfl (fun ls hl => ?_)
  refine lv_lload_n hx hb d_Cnts_comesBefore_29 rfl (lv_at hl 1 rfl) ?_
  refine lv_lload hx hb d_Cnts_comesBefore_30 (lv_at hl 0 rfl) ?_
  refine W.lcmp hx hb d_Cnts_comesBefore_32 ?_
  refine lv_if_gt (tgt := 48) hx hb d_Cnts_comesBefore_33 (by decide) (fun c33 => ?_) (fun c33 => ?_)
  · have c33 := (lg_cmp_gt _ _).mp c33
    refine lv_iconst (v := 1) hx hb d_Cnts_comesBefore_48 (by decide) ?_
    refine lv_goto (tgt := 53) hx hb d_Cnts_comesBefore_49 (by decide) ?_
    exact mm_zret (v := 1) E hr hlk eQ hZ rfl d_Cnts_comesBefore_53 ⟨_, rfl, rfl, b32_t (Or.inl c33)⟩
  · have c33 := mt (lg_cmp_gt _ _).mpr c33
    refine lv_lload_n hx hb d_Cnts_comesBefore_36 rfl (lv_at hl 1 rfl) ?_
    refine lv_lload hx hb d_Cnts_comesBefore_37 (lv_at hl 0 rfl) ?_
    refine W.lcmp hx hb d_Cnts_comesBefore_39 ?_
    refine lv_if_ne (tgt := 52) hx hb d_Cnts_comesBefore_40 (by decide) (fun c40 => ?_) (fun c40 => ?_)
    · have c40 := mt (lg_cmp_eq _ _).mpr c40
      refine lv_iconst (v := 0) hx hb d_Cnts_comesBefore_52 (by decide) ?_
      exact mm_zret (v := 0) E hr hlk eQ hZ rfl d_Cnts_comesBefore_53 ⟨_, rfl, rfl, b32_f (fun z => z.elim c33 (fun y => c40 y.1))⟩
    · have c40 := (lg_cmp_eq _ _).mp c40
      refine lv_iload_n hx hb d_Cnts_comesBefore_43 rfl (lv_at hl 3 rfl) ?_
      refine lv_iload_n hx hb d_Cnts_comesBefore_44 rfl (lv_at hl 4 rfl) ?_
      refine lv_icmp_ge (tgt := 52) hx hb d_Cnts_comesBefore_45 (by decide) (fun c45 => ?_) (fun c45 => ?_)
      · refine lv_iconst (v := 0) hx hb d_Cnts_comesBefore_52 (by decide) ?_
        exact mm_zret (v := 0) E hr hlk eQ hZ rfl d_Cnts_comesBefore_53 ⟨_, rfl, rfl, b32_f (fun z => z.elim c33 (fun y => absurd y.2 (Int32.not_lt.mpr c45)))⟩
      · refine lv_iconst (v := 1) hx hb d_Cnts_comesBefore_48 (by decide) ?_
        refine lv_goto (tgt := 53) hx hb d_Cnts_comesBefore_49 (by decide) ?_
        exact mm_zret (v := 1) E hr hlk eQ hZ rfl d_Cnts_comesBefore_53 ⟨_, rfl, rfl, b32_t (Or.inr ⟨c40, Int32.not_le.mp c45⟩)⟩
set_option maxHeartbeats 4000000 in
set_option maxRecDepth 100000 in
theorem c_Cnts_clustersBefore (l : Launch) (g : mm_G) {M0 : mm_M} {o bA lA : Nat} {fb fl : Nat → Int32} (h0 : Cn g M0 o bA lA fb fl) {p : Nat} (hp5 : p < 50) : Ci l g y_Cnts_clustersBefore b_Cnts_clustersBefore 4 .int (rk 3 67 0 0) M0 [.ref o, .int (nI p)] (fun r M' => M' = M0 ∧ r = nI (cbN fb fl p 50)) := by
  refine mm_enter (by decide) (Nat.le_of_ble_eq_true rfl) (fun pG eV s m args below meth cdx ls Q E hml hr hlk hnm hZ hl eQ => ?_)
  have hx := E.1
  have hb := E.2.1
  have hl : lv_has ls 4 [(0, .ref o), (1, .int (nI p))] := hl
  have ho := h0.1
  have hbA := h0.2.1
  have hlA := h0.2.2
  refine lv_iconst (v := 0) hx hb d_Cnts_clustersBefore_0 (by decide) ?_
  refine lv_istore_n (lv' := [(2, .int 0), (0, .ref o), (1, .int (nI p))]) hx hb d_Cnts_clustersBefore_1 rfl hl (by decide) rfl (fun ls hl => ?_)
  refine lv_iconst (v := 0) hx hb d_Cnts_clustersBefore_2 (by decide) ?_
  refine lv_istore_n (lv' := [(3, .int 0), (2, .int 0), (0, .ref o), (1, .int (nI p))]) hx hb d_Cnts_clustersBefore_3 rfl hl (by decide) rfl (fun ls hl => ?_)
  have loop : ∀ (n : Nat) (k : Nat) (H : Heap) (locs : List Loc) (ls : Array Slot), mm_S g s M0 H locs → k ≤ 50 → 51 ≤ k + n → lv_has ls 4 [(0, .ref o), (1, .int (nI p)), (2, .int (nI (cbN fb fl p k))), (3, .int (nI k))] → W pG l eV (rk 3 67 0 0) s m args below meth cdx H locs 0 0 Q (F0 m 4 ls []) := by
    intro n
    induction n with
    | zero => exact fun k H locs ls _ hk1 hfu _ => absurd hfu (by omega)
    | succ n ih =>
      intro k H locs ls hZ hk1 hfu hl
      refine lv_iload_n hx hb d_Cnts_clustersBefore_4 rfl (lv_at hl 3 rfl) ?_
      refine lv_bipush (v := 50) hx hb d_Cnts_clustersBefore_5 (by decide) ?_
      refine lv_icmp_ge (tgt := 36) hx hb d_Cnts_clustersBefore_7 (by decide) (fun c7 => ?_) (fun c7 => ?_)
      · have hk2 : k = 50 := by
          rcases Nat.lt_or_ge k 50 with z | z
          · exact absurd (show nI 50 ≤ nI k from c7) (nI_ge z (by decide))
          · omega
        subst hk2
        refine lv_iload_n hx hb d_Cnts_clustersBefore_36 rfl (lv_at hl 2 rfl) ?_
        exact mm_iret (v := nI (cbN fb fl p 50)) E hr hlk eQ hZ d_Cnts_clustersBefore_37 ⟨_, rfl, rfl, rfl⟩
      · have hk2 : k < 50 := by
          rcases Nat.lt_or_ge k 50 with z | z
          · exact z
          · exact absurd (show nI 50 ≤ nI k from nI_le z (by omega)) c7
        refine lv_aload_n hx hb d_Cnts_clustersBefore_10 rfl (lv_at hl 0 rfl) ?_
        refine lv_iload_n hx hb d_Cnts_clustersBefore_11 rfl (lv_at hl 3 rfl) ?_
        refine mm_calli (mm_runV (As := [.int (nI k)]) (rest := []) E hZ hml hl.1 lk_Cnts_26 me_Cnts_isCluster in_Cnts_isCluster (c_Cnts_isCluster l g h0 hk2) ho cl_Cnts.1 ⟨Nat.le_of_ble_eq_true rfl, Nat.le_of_ble_eq_true rfl⟩ rfl (Nat.le_of_ble_eq_true rfl) d_Cnts_clustersBefore_12 ⟨Nat.le_of_ble_eq_true rfl, Nat.le_of_ble_eq_true rfl⟩) hZ (fun r1 M1 H locs hp hZ => ?_)
        rw [hp.1] at hZ
        replace hp := hp.2
        have hp1 := hp
        clear hp
        refine lv_if_eq (tgt := 30) hx hb d_Cnts_clustersBefore_15 (by decide) (fun c15 => ?_) (fun c15 => ?_)
        · refine lv_iinc (v := (nI k) + 1) (lv' := [(3, .int ((nI k) + 1)), (0, .ref o), (1, .int (nI p)), (2, .int (nI (cbN fb fl p k)))]) hx hb d_Cnts_clustersBefore_30 hl (k := 3) rfl rfl (by decide) rfl (fun ls hl => ?_)
          refine lv_goto (tgt := 4) hx hb d_Cnts_clustersBefore_33 (by decide) ?_
          rw [nI_1] at hl
          have hm : cbN fb fl p (k + 1) = cbN fb fl p k := by rw [cbN, if_neg (fun z => b32_eq0.mp (hp1 ▸ c15) z.1)]
          rw [← hm] at hl
          exact ih (k + 1) H locs ls hZ (by omega) (by omega) (lv_sub hl [1, 2, 3, 0] rfl)
        · refine lv_aload_n hx hb d_Cnts_clustersBefore_18 rfl (lv_at hl 0 rfl) ?_
          refine lv_iload_n hx hb d_Cnts_clustersBefore_19 rfl (lv_at hl 3 rfl) ?_
          refine lv_iload_n hx hb d_Cnts_clustersBefore_20 rfl (lv_at hl 1 rfl) ?_
          refine mm_calli (mm_runV (As := [.int (nI k), .int (nI p)]) (rest := []) E hZ hml hl.1 lk_Cnts_32 me_Cnts_comesBefore in_Cnts_comesBefore (c_Cnts_comesBefore l g h0 hk2 hp5) ho cl_Cnts.1 ⟨Nat.le_of_ble_eq_true rfl, Nat.le_of_ble_eq_true rfl⟩ rfl (Nat.le_of_ble_eq_true rfl) d_Cnts_clustersBefore_21 ⟨Nat.le_of_ble_eq_true rfl, Nat.le_of_ble_eq_true rfl⟩) hZ (fun r2 M1 H locs hp hZ => ?_)
          rw [hp.1] at hZ
          replace hp := hp.2
          refine lv_if_eq (tgt := 30) hx hb d_Cnts_clustersBefore_24 (by decide) (fun c24 => ?_) (fun c24 => ?_)
          · refine lv_iinc (v := (nI k) + 1) (lv' := [(3, .int ((nI k) + 1)), (0, .ref o), (1, .int (nI p)), (2, .int (nI (cbN fb fl p k)))]) hx hb d_Cnts_clustersBefore_30 hl (k := 3) rfl rfl (by decide) rfl (fun ls hl => ?_)
            refine lv_goto (tgt := 4) hx hb d_Cnts_clustersBefore_33 (by decide) ?_
            rw [nI_1] at hl
            have hm : cbN fb fl p (k + 1) = cbN fb fl p k := by rw [cbN, if_neg (fun z => b32_eq0.mp (hp ▸ c24) z.2)]
            rw [← hm] at hl
            exact ih (k + 1) H locs ls hZ (by omega) (by omega) (lv_sub hl [1, 2, 3, 0] rfl)
          · refine lv_iinc (v := (nI (cbN fb fl p k)) + 1) (lv' := [(2, .int ((nI (cbN fb fl p k)) + 1)), (0, .ref o), (1, .int (nI p)), (3, .int (nI k))]) hx hb d_Cnts_clustersBefore_27 hl (k := 2) rfl rfl (by decide) rfl (fun ls hl => ?_)
            refine lv_iinc (v := (nI k) + 1) (lv' := [(3, .int ((nI k) + 1)), (2, .int ((nI (cbN fb fl p k)) + 1)), (0, .ref o), (1, .int (nI p))]) hx hb d_Cnts_clustersBefore_30 hl (k := 3) rfl rfl (by decide) rfl (fun ls hl => ?_)
            refine lv_goto (tgt := 4) hx hb d_Cnts_clustersBefore_33 (by decide) ?_
            rw [nI_1] at hl
            rw [nI_1] at hl
            have hm : cbN fb fl p (k + 1) = cbN fb fl p k + 1 := by rw [cbN, if_pos ⟨b32_ne0 (hp1 ▸ c15), b32_ne0 (hp ▸ c24)⟩]
            rw [← hm] at hl
            exact ih (k + 1) H locs ls hZ (by omega) (by omega) (lv_sub hl [2, 3, 1, 0] rfl)
  exact loop 51 0 s.heap [] ls hZ (Nat.zero_le _) (by omega) (lv_sub hl [2, 3, 1, 0] rfl)
set_option maxHeartbeats 4000000 in
set_option maxRecDepth 100000 in
theorem c_Cnts_clusterPlace (l : Launch) (g : mm_G) {M0 : mm_M} {o bA lA : Nat} {fb fl : Nat → Int32} (h0 : Cn g M0 o bA lA fb fl) (i : Int32) : Ci l g y_Cnts_clusterPlace b_Cnts_clusterPlace 3 .int (rk 4 90 0 0) M0 [.ref o, .int i] (fun r M' => M' = M0 ∧ ((∃ k, k < 50 ∧ (3 ≤ fl k ∧ nI (cbN fb fl k 50) = i) ∧ r = nI k ∧ ∀ j, j < k → ¬ (3 ≤ fl j ∧ nI (cbN fb fl j 50) = i)) ∨ ((∀ j, j < 50 → ¬ (3 ≤ fl j ∧ nI (cbN fb fl j 50) = i)) ∧ r = (-1)))) := by
  refine mm_enter (by decide) (Nat.le_of_ble_eq_true rfl) (fun pG eV s m args below meth cdx ls Q E hml hr hlk hnm hZ hl eQ => ?_)
  have hx := E.1
  have hb := E.2.1
  have hl : lv_has ls 3 [(0, .ref o), (1, .int i)] := hl
  have ho := h0.1
  have hbA := h0.2.1
  have hlA := h0.2.2
  refine lv_iconst (v := 0) hx hb d_Cnts_clusterPlace_0 (by decide) ?_
  refine lv_istore_n (lv' := [(2, .int 0), (0, .ref o), (1, .int i)]) hx hb d_Cnts_clusterPlace_1 rfl hl (by decide) rfl (fun ls hl => ?_)
  have loop : ∀ (n : Nat) (k : Nat) (H : Heap) (locs : List Loc) (ls : Array Slot), mm_S g s M0 H locs → k ≤ 50 → (∀ j, j < k → ¬ (3 ≤ fl j ∧ nI (cbN fb fl j 50) = i)) → 51 ≤ k + n → lv_has ls 3 [(0, .ref o), (1, .int i), (2, .int (nI k))] → W pG l eV (rk 4 90 0 0) s m args below meth cdx H locs 0 0 Q (F0 m 2 ls []) := by
    intro n
    induction n with
    | zero => exact fun k H locs ls _ hk1 hno hfu _ => absurd hfu (by omega)
    | succ n ih =>
      intro k H locs ls hZ hk1 hno hfu hl
      refine lv_iload_n hx hb d_Cnts_clusterPlace_2 rfl (lv_at hl 2 rfl) ?_
      refine lv_bipush (v := 50) hx hb d_Cnts_clusterPlace_3 (by decide) ?_
      refine lv_icmp_ge (tgt := 33) hx hb d_Cnts_clusterPlace_5 (by decide) (fun c5 => ?_) (fun c5 => ?_)
      · have hk2 : k = 50 := by
          rcases Nat.lt_or_ge k 50 with z | z
          · exact absurd (show nI 50 ≤ nI k from c5) (nI_ge z (by decide))
          · omega
        subst hk2
        refine lv_iconst (v := (-1)) hx hb d_Cnts_clusterPlace_33 (by decide) ?_
        exact mm_iret (v := (-1)) E hr hlk eQ hZ d_Cnts_clusterPlace_34 ⟨_, rfl, rfl, Or.inr ⟨hno, rfl⟩⟩
      · have hk2 : k < 50 := by
          rcases Nat.lt_or_ge k 50 with z | z
          · exact z
          · exact absurd (show nI 50 ≤ nI k from nI_le z (by omega)) c5
        refine lv_aload_n hx hb d_Cnts_clusterPlace_8 rfl (lv_at hl 0 rfl) ?_
        refine lv_iload_n hx hb d_Cnts_clusterPlace_9 rfl (lv_at hl 2 rfl) ?_
        refine mm_calli (mm_runV (As := [.int (nI k)]) (rest := []) E hZ hml hl.1 lk_Cnts_26 me_Cnts_isCluster in_Cnts_isCluster (c_Cnts_isCluster l g h0 hk2) ho cl_Cnts.1 ⟨Nat.le_of_ble_eq_true rfl, Nat.le_of_ble_eq_true rfl⟩ rfl (Nat.le_of_ble_eq_true rfl) d_Cnts_clusterPlace_10 ⟨Nat.le_of_ble_eq_true rfl, Nat.le_of_ble_eq_true rfl⟩) hZ (fun r1 M1 H locs hp hZ => ?_)
        rw [hp.1] at hZ
        replace hp := hp.2
        have hp1 := hp
        clear hp
        refine lv_if_eq (tgt := 27) hx hb d_Cnts_clusterPlace_13 (by decide) (fun c13 => ?_) (fun c13 => ?_)
        · refine lv_iinc (v := (nI k) + 1) (lv' := [(2, .int ((nI k) + 1)), (0, .ref o), (1, .int i)]) hx hb d_Cnts_clusterPlace_27 hl (k := 2) rfl rfl (by decide) rfl (fun ls hl => ?_)
          refine lv_goto (tgt := 2) hx hb d_Cnts_clusterPlace_30 (by decide) ?_
          rw [nI_1] at hl
          exact ih (k + 1) H locs ls hZ (by omega) (fun j z => by
            rcases Nat.lt_or_ge j k with y | y
            · exact hno j y
            · rw [show j = k by omega]; exact fun z => b32_eq0.mp (hp1 ▸ c13) z.1) (by omega) (lv_sub hl [1, 2, 0] rfl)
        · refine lv_aload_n hx hb d_Cnts_clusterPlace_16 rfl (lv_at hl 0 rfl) ?_
          refine lv_iload_n hx hb d_Cnts_clusterPlace_17 rfl (lv_at hl 2 rfl) ?_
          refine mm_calli (mm_runV (As := [.int (nI k)]) (rest := []) E hZ hml hl.1 lk_Cnts_29 me_Cnts_clustersBefore in_Cnts_clustersBefore (c_Cnts_clustersBefore l g h0 hk2) ho cl_Cnts.1 ⟨Nat.le_of_ble_eq_true rfl, Nat.le_of_ble_eq_true rfl⟩ rfl (Nat.le_of_ble_eq_true rfl) d_Cnts_clusterPlace_18 ⟨Nat.le_of_ble_eq_true rfl, Nat.le_of_ble_eq_true rfl⟩) hZ (fun r2 M1 H locs hp hZ => ?_)
          rw [hp.1] at hZ
          replace hp := hp.2
          refine lv_iload_n hx hb d_Cnts_clusterPlace_21 rfl (lv_at hl 1 rfl) ?_
          refine lv_icmp_ne (tgt := 27) hx hb d_Cnts_clusterPlace_22 (by decide) (fun c22 => ?_) (fun c22 => ?_)
          · refine lv_iinc (v := (nI k) + 1) (lv' := [(2, .int ((nI k) + 1)), (0, .ref o), (1, .int i)]) hx hb d_Cnts_clusterPlace_27 hl (k := 2) rfl rfl (by decide) rfl (fun ls hl => ?_)
            refine lv_goto (tgt := 2) hx hb d_Cnts_clusterPlace_30 (by decide) ?_
            rw [nI_1] at hl
            exact ih (k + 1) H locs ls hZ (by omega) (fun j z => by
              rcases Nat.lt_or_ge j k with y | y
              · exact hno j y
              · rw [show j = k by omega]; exact fun z => c22 (hp.trans z.2)) (by omega) (lv_sub hl [1, 2, 0] rfl)
          · refine lv_iload_n hx hb d_Cnts_clusterPlace_25 rfl (lv_at hl 2 rfl) ?_
            exact mm_iret (v := nI k) E hr hlk eQ hZ d_Cnts_clusterPlace_26 ⟨_, rfl, rfl, Or.inl ⟨k, hk2, ⟨b32_ne0 (hp1 ▸ c13), hp.symm.trans c22⟩, rfl, hno⟩⟩
  exact loop 51 0 s.heap [] ls hZ (Nat.zero_le _) (fun j z => absurd z (Nat.not_lt_zero j)) (by omega) (lv_sub hl [1, 2, 0] rfl)
