/-! THE CLASS: Item -/
/-- an item's cell -/
abbrev itc (st : Int32) (fi la : Int64) (ro pl : Int32) (du : Int64) (lt lo : Int32) : mm_E := ob 7 5 [.int st, .long fi, .long la, .int ro, .int pl, .long du, .int lt, .int lo]
set_option maxHeartbeats 4000000 in
set_option maxRecDepth 100000 in
theorem c_Item_init (l : Launch) (g : mm_G) {M0 : mm_M} {a : Nat} (h : M0 a = some (itc 0 0 0 0 0 0 0 0)) : Cv l g y_Item_init b_Item_init 1 (rk 1 20 0 0) M0 [.ref a] (fun M' => M' = mm_up M0 a (itc (-1) 0 0 0 0 0 0 0)) := by
  refine mm_enter (by decide) (Nat.le_of_ble_eq_true rfl) (fun pG eV s m args below meth cdx ls Q E hml hr hlk hnm hZ hl eQ => ?_)
  have hx := E.1
  have hb := E.2.1
  have hl : lv_has ls 1 [(0, .ref a)] := hl
  refine lv_aload_n hx hb d_Item_init_0 rfl (lv_at hl 0 rfl) ?_
  refine mm_objI E hml hl.1 w_133 w_30 w_31 (Nat.le_of_ble_eq_true rfl) (Nat.le_of_ble_eq_true rfl) d_Item_init_1 ?_
  refine lv_aload_n hx hb d_Item_init_4 rfl (lv_at hl 0 rfl) ?_
  refine lv_iconst (v := (-1)) hx hb d_Item_init_5 (by decide) ?_
  refine mm_put E hZ cl_Item fl_Item_9 (by decide) rfl h (by decide) rfl rfl (Nat.le_of_ble_eq_true rfl) d_Item_init_6 (fun H locs hZ => ?_)
  obtain ⟨M1, eM1⟩ : ∃ zz : mm_M, zz = mm_up M0 a (ob 7 5 [.int (-1), .long 0, .long 0, .int 0, .int 0, .long 0, .int 0, .int 0]) := ⟨_, rfl⟩
  have hZ : mm_S g s M1 H locs := by rw [eM1]; exact hZ
  have h2 := (congrFun eM1 a).trans (mm_self _ _ _)
  refine lv_aload_n hx hb d_Item_init_9 rfl (lv_at hl 0 rfl) ?_
  refine lv_lconst (v := 0) hx hb d_Item_init_10 (by decide) ?_
  refine mm_put E hZ cl_Item fl_Item_15 (by decide) rfl h2 (by decide) rfl rfl (Nat.le_of_ble_eq_true rfl) d_Item_init_11 (fun H locs hZ => ?_)
  obtain ⟨M3, eM3⟩ : ∃ zz : mm_M, zz = mm_up M1 a (ob 7 5 [.int (-1), .long 0, .long 0, .int 0, .int 0, .long 0, .int 0, .int 0]) := ⟨_, rfl⟩
  have hZ : mm_S g s M3 H locs := by rw [eM3]; exact hZ
  have h4 := (congrFun eM3 a).trans (mm_self _ _ _)
  refine lv_aload_n hx hb d_Item_init_14 rfl (lv_at hl 0 rfl) ?_
  refine lv_lconst (v := 0) hx hb d_Item_init_15 (by decide) ?_
  refine mm_put E hZ cl_Item fl_Item_19 (by decide) rfl h4 (by decide) rfl rfl (Nat.le_of_ble_eq_true rfl) d_Item_init_16 (fun H locs hZ => ?_)
  obtain ⟨M5, eM5⟩ : ∃ zz : mm_M, zz = mm_up M3 a (ob 7 5 [.int (-1), .long 0, .long 0, .int 0, .int 0, .long 0, .int 0, .int 0]) := ⟨_, rfl⟩
  have hZ : mm_S g s M5 H locs := by rw [eM5]; exact hZ
  have h6 := (congrFun eM5 a).trans (mm_self _ _ _)
  refine lv_aload_n hx hb d_Item_init_19 rfl (lv_at hl 0 rfl) ?_
  refine lv_iconst (v := 0) hx hb d_Item_init_20 (by decide) ?_
  refine mm_put E hZ cl_Item fl_Item_22 (by decide) rfl h6 (by decide) rfl rfl (Nat.le_of_ble_eq_true rfl) d_Item_init_21 (fun H locs hZ => ?_)
  obtain ⟨M7, eM7⟩ : ∃ zz : mm_M, zz = mm_up M5 a (ob 7 5 [.int (-1), .long 0, .long 0, .int 0, .int 0, .long 0, .int 0, .int 0]) := ⟨_, rfl⟩
  have hZ : mm_S g s M7 H locs := by rw [eM7]; exact hZ
  have h8 := (congrFun eM7 a).trans (mm_self _ _ _)
  refine lv_aload_n hx hb d_Item_init_24 rfl (lv_at hl 0 rfl) ?_
  refine lv_iconst (v := 0) hx hb d_Item_init_25 (by decide) ?_
  refine mm_put E hZ cl_Item fl_Item_25 (by decide) rfl h8 (by decide) rfl rfl (Nat.le_of_ble_eq_true rfl) d_Item_init_26 (fun H locs hZ => ?_)
  obtain ⟨M9, eM9⟩ : ∃ zz : mm_M, zz = mm_up M7 a (ob 7 5 [.int (-1), .long 0, .long 0, .int 0, .int 0, .long 0, .int 0, .int 0]) := ⟨_, rfl⟩
  have hZ : mm_S g s M9 H locs := by rw [eM9]; exact hZ
  have h10 := (congrFun eM9 a).trans (mm_self _ _ _)
  refine lv_aload_n hx hb d_Item_init_29 rfl (lv_at hl 0 rfl) ?_
  refine lv_lconst (v := 0) hx hb d_Item_init_30 (by decide) ?_
  refine mm_put E hZ cl_Item fl_Item_28 (by decide) rfl h10 (by decide) rfl rfl (Nat.le_of_ble_eq_true rfl) d_Item_init_31 (fun H locs hZ => ?_)
  obtain ⟨M11, eM11⟩ : ∃ zz : mm_M, zz = mm_up M9 a (ob 7 5 [.int (-1), .long 0, .long 0, .int 0, .int 0, .long 0, .int 0, .int 0]) := ⟨_, rfl⟩
  have hZ : mm_S g s M11 H locs := by rw [eM11]; exact hZ
  have h12 := (congrFun eM11 a).trans (mm_self _ _ _)
  refine lv_aload_n hx hb d_Item_init_34 rfl (lv_at hl 0 rfl) ?_
  refine lv_iconst (v := 0) hx hb d_Item_init_35 (by decide) ?_
  refine mm_put E hZ cl_Item fl_Item_31 (by decide) rfl h12 (by decide) rfl rfl (Nat.le_of_ble_eq_true rfl) d_Item_init_36 (fun H locs hZ => ?_)
  obtain ⟨M13, eM13⟩ : ∃ zz : mm_M, zz = mm_up M11 a (ob 7 5 [.int (-1), .long 0, .long 0, .int 0, .int 0, .long 0, .int 0, .int 0]) := ⟨_, rfl⟩
  have hZ : mm_S g s M13 H locs := by rw [eM13]; exact hZ
  have h14 := (congrFun eM13 a).trans (mm_self _ _ _)
  refine lv_aload_n hx hb d_Item_init_39 rfl (lv_at hl 0 rfl) ?_
  refine lv_iconst (v := 0) hx hb d_Item_init_40 (by decide) ?_
  refine mm_put E hZ cl_Item fl_Item_35 (by decide) rfl h14 (by decide) rfl rfl (Nat.le_of_ble_eq_true rfl) d_Item_init_41 (fun H locs hZ => ?_)
  obtain ⟨M15, eM15⟩ : ∃ zz : mm_M, zz = mm_up M13 a (ob 7 5 [.int (-1), .long 0, .long 0, .int 0, .int 0, .long 0, .int 0, .int 0]) := ⟨_, rfl⟩
  have hZ : mm_S g s M15 H locs := by rw [eM15]; exact hZ
  have h16 := (congrFun eM15 a).trans (mm_self _ _ _)
  exact mm_vret E hr hlk eQ hZ d_Item_init_44 ⟨rfl, (by rw [eM15, eM13, eM11, eM9, eM7, eM5, eM3, eM1]; simp only [mm_uu])⟩
set_option maxHeartbeats 4000000 in
set_option maxRecDepth 100000 in
theorem c_Item_isNew (l : Launch) (g : mm_G) {M0 : mm_M} {a : Nat} {st : Int32} {fi la : Int64} {ro pl : Int32} {du : Int64} {lt lo : Int32} (h : M0 a = some (itc st fi la ro pl du lt lo)) : Ci l g y_Item_isNew b_Item_isNew 1 .boolean (rk 0 0 0 0) M0 [.ref a] (fun r M' => M' = M0 ∧ r = b32 (st = (-1))) := by
  refine mm_enter (by decide) (Nat.le_of_ble_eq_true rfl) (fun pG eV s m args below meth cdx ls Q E hml hr hlk hnm hZ hl eQ => ?_)
  have hx := E.1
  have hb := E.2.1
  have hl : lv_has ls 1 [(0, .ref a)] := hl
  refine lv_aload_n hx hb d_Item_isNew_0 rfl (lv_at hl 0 rfl) ?_
  refine mm_get E hZ cl_Item fl_Item_9 (by decide) h rfl d_Item_isNew_1 ?_
  refine lv_iconst (v := (-1)) hx hb d_Item_isNew_4 (by decide) ?_
  refine lv_icmp_ne (tgt := 12) hx hb d_Item_isNew_5 (by decide) (fun c5 => ?_) (fun c5 => ?_)
  · refine lv_iconst (v := 0) hx hb d_Item_isNew_12 (by decide) ?_
    exact mm_zret (v := 0) E hr hlk eQ hZ rfl d_Item_isNew_13 ⟨_, rfl, rfl, b32_f c5⟩
  · refine lv_iconst (v := 1) hx hb d_Item_isNew_8 (by decide) ?_
    refine lv_goto (tgt := 13) hx hb d_Item_isNew_9 (by decide) ?_
    exact mm_zret (v := 1) E hr hlk eQ hZ rfl d_Item_isNew_13 ⟨_, rfl, rfl, b32_t c5⟩
set_option maxHeartbeats 4000000 in
set_option maxRecDepth 100000 in
theorem c_Item_isExpected (l : Launch) (g : mm_G) {M0 : mm_M} {a : Nat} {st : Int32} {fi la : Int64} {ro pl : Int32} {du : Int64} {lt lo : Int32} (h : M0 a = some (itc st fi la ro pl du lt lo)) : Ci l g y_Item_isExpected b_Item_isExpected 1 .boolean (rk 0 0 0 0) M0 [.ref a] (fun r M' => M' = M0 ∧ r = b32 (¬ ro = 0)) := by
  refine mm_enter (by decide) (Nat.le_of_ble_eq_true rfl) (fun pG eV s m args below meth cdx ls Q E hml hr hlk hnm hZ hl eQ => ?_)
  have hx := E.1
  have hb := E.2.1
  have hl : lv_has ls 1 [(0, .ref a)] := hl
  refine lv_aload_n hx hb d_Item_isExpected_0 rfl (lv_at hl 0 rfl) ?_
  refine mm_get E hZ cl_Item fl_Item_22 (by decide) h rfl d_Item_isExpected_1 ?_
  refine lv_if_eq (tgt := 11) hx hb d_Item_isExpected_4 (by decide) (fun c4 => ?_) (fun c4 => ?_)
  · refine lv_iconst (v := 0) hx hb d_Item_isExpected_11 (by decide) ?_
    exact mm_zret (v := 0) E hr hlk eQ hZ rfl d_Item_isExpected_12 ⟨_, rfl, rfl, b32_f (fun z => z c4)⟩
  · refine lv_iconst (v := 1) hx hb d_Item_isExpected_7 (by decide) ?_
    refine lv_goto (tgt := 12) hx hb d_Item_isExpected_8 (by decide) ?_
    exact mm_zret (v := 1) E hr hlk eQ hZ rfl d_Item_isExpected_12 ⟨_, rfl, rfl, b32_t c4⟩
set_option maxHeartbeats 4000000 in
set_option maxRecDepth 100000 in
theorem c_Item_beginAnew (l : Launch) (g : mm_G) {M0 : mm_M} {a : Nat} {st : Int32} {fi la : Int64} {ro pl : Int32} {du : Int64} {lt lo : Int32} (h : M0 a = some (itc st fi la ro pl du lt lo)) : Cv l g y_Item_beginAnew b_Item_beginAnew 1 (rk 0 0 0 0) M0 [.ref a] (fun M' => M' = mm_up M0 a (itc (-1) fi la ro pl du lt lo)) := by
  refine mm_enter (by decide) (Nat.le_of_ble_eq_true rfl) (fun pG eV s m args below meth cdx ls Q E hml hr hlk hnm hZ hl eQ => ?_)
  have hx := E.1
  have hb := E.2.1
  have hl : lv_has ls 1 [(0, .ref a)] := hl
  refine lv_aload_n hx hb d_Item_beginAnew_0 rfl (lv_at hl 0 rfl) ?_
  refine lv_iconst (v := (-1)) hx hb d_Item_beginAnew_1 (by decide) ?_
  refine mm_put E hZ cl_Item fl_Item_9 (by decide) rfl h (by decide) rfl rfl (Nat.le_of_ble_eq_true rfl) d_Item_beginAnew_2 (fun H locs hZ => ?_)
  obtain ⟨M1, eM1⟩ : ∃ zz : mm_M, zz = mm_up M0 a (ob 7 5 [.int (-1), .long fi, .long la, .int ro, .int pl, .long du, .int lt, .int lo]) := ⟨_, rfl⟩
  have hZ : mm_S g s M1 H locs := by rw [eM1]; exact hZ
  have h2 := (congrFun eM1 a).trans (mm_self _ _ _)
  exact mm_vret E hr hlk eQ hZ d_Item_beginAnew_5 ⟨rfl, eM1⟩
set_option maxHeartbeats 4000000 in
set_option maxRecDepth 100000 in
theorem c_Item_expectNothing (l : Launch) (g : mm_G) {M0 : mm_M} {a : Nat} {st : Int32} {fi la : Int64} {ro pl : Int32} {du : Int64} {lt lo : Int32} (h : M0 a = some (itc st fi la ro pl du lt lo)) : Cv l g y_Item_expectNothing b_Item_expectNothing 1 (rk 0 0 0 0) M0 [.ref a] (fun M' => M' = mm_up M0 a (itc st fi la 0 pl du 0 0)) := by
  refine mm_enter (by decide) (Nat.le_of_ble_eq_true rfl) (fun pG eV s m args below meth cdx ls Q E hml hr hlk hnm hZ hl eQ => ?_)
  have hx := E.1
  have hb := E.2.1
  have hl : lv_has ls 1 [(0, .ref a)] := hl
  refine lv_aload_n hx hb d_Item_expectNothing_0 rfl (lv_at hl 0 rfl) ?_
  refine lv_iconst (v := 0) hx hb d_Item_expectNothing_1 (by decide) ?_
  refine mm_put E hZ cl_Item fl_Item_22 (by decide) rfl h (by decide) rfl rfl (Nat.le_of_ble_eq_true rfl) d_Item_expectNothing_2 (fun H locs hZ => ?_)
  obtain ⟨M1, eM1⟩ : ∃ zz : mm_M, zz = mm_up M0 a (ob 7 5 [.int st, .long fi, .long la, .int 0, .int pl, .long du, .int lt, .int lo]) := ⟨_, rfl⟩
  have hZ : mm_S g s M1 H locs := by rw [eM1]; exact hZ
  have h2 := (congrFun eM1 a).trans (mm_self _ _ _)
  refine lv_aload_n hx hb d_Item_expectNothing_5 rfl (lv_at hl 0 rfl) ?_
  refine lv_iconst (v := 0) hx hb d_Item_expectNothing_6 (by decide) ?_
  refine mm_put E hZ cl_Item fl_Item_31 (by decide) rfl h2 (by decide) rfl rfl (Nat.le_of_ble_eq_true rfl) d_Item_expectNothing_7 (fun H locs hZ => ?_)
  obtain ⟨M3, eM3⟩ : ∃ zz : mm_M, zz = mm_up M1 a (ob 7 5 [.int st, .long fi, .long la, .int 0, .int pl, .long du, .int 0, .int lo]) := ⟨_, rfl⟩
  have hZ : mm_S g s M3 H locs := by rw [eM3]; exact hZ
  have h4 := (congrFun eM3 a).trans (mm_self _ _ _)
  refine lv_aload_n hx hb d_Item_expectNothing_10 rfl (lv_at hl 0 rfl) ?_
  refine lv_iconst (v := 0) hx hb d_Item_expectNothing_11 (by decide) ?_
  refine mm_put E hZ cl_Item fl_Item_35 (by decide) rfl h4 (by decide) rfl rfl (Nat.le_of_ble_eq_true rfl) d_Item_expectNothing_12 (fun H locs hZ => ?_)
  obtain ⟨M5, eM5⟩ : ∃ zz : mm_M, zz = mm_up M3 a (ob 7 5 [.int st, .long fi, .long la, .int 0, .int pl, .long du, .int 0, .int 0]) := ⟨_, rfl⟩
  have hZ : mm_S g s M5 H locs := by rw [eM5]; exact hZ
  have h6 := (congrFun eM5 a).trans (mm_self _ _ _)
  exact mm_vret E hr hlk eQ hZ d_Item_expectNothing_15 ⟨rfl, (by rw [eM5, eM3, eM1]; simp only [mm_uu])⟩
set_option maxHeartbeats 4000000 in
set_option maxRecDepth 100000 in
theorem c_Item_expect (l : Launch) (g : mm_G) {M0 : mm_M} {a : Nat} {st : Int32} {fi la : Int64} {ro pl : Int32} {du : Int64} {lt lo : Int32} (h : M0 a = some (itc st fi la ro pl du lt lo)) (x y : Int32) (z : Int64) : Cv l g y_Item_expect b_Item_expect 5 (rk 0 0 0 0) M0 [.ref a, .int x, .int y, .long z] (fun M' => M' = mm_up M0 a (itc st fi la x y z lt lo)) := by
  refine mm_enter (by decide) (Nat.le_of_ble_eq_true rfl) (fun pG eV s m args below meth cdx ls Q E hml hr hlk hnm hZ hl eQ => ?_)
  have hx := E.1
  have hb := E.2.1
  have hl : lv_has ls 5 [(0, .ref a), (1, .int x), (2, .int y), (3, .long z)] := hl
  refine lv_aload_n hx hb d_Item_expect_0 rfl (lv_at hl 0 rfl) ?_
  refine lv_iload_n hx hb d_Item_expect_1 rfl (lv_at hl 1 rfl) ?_
  refine mm_put E hZ cl_Item fl_Item_22 (by decide) rfl h (by decide) rfl rfl (Nat.le_of_ble_eq_true rfl) d_Item_expect_2 (fun H locs hZ => ?_)
  obtain ⟨M1, eM1⟩ : ∃ zz : mm_M, zz = mm_up M0 a (ob 7 5 [.int st, .long fi, .long la, .int x, .int pl, .long du, .int lt, .int lo]) := ⟨_, rfl⟩
  have hZ : mm_S g s M1 H locs := by rw [eM1]; exact hZ
  have h2 := (congrFun eM1 a).trans (mm_self _ _ _)
  refine lv_aload_n hx hb d_Item_expect_5 rfl (lv_at hl 0 rfl) ?_
  refine lv_iload_n hx hb d_Item_expect_6 rfl (lv_at hl 2 rfl) ?_
  refine mm_put E hZ cl_Item fl_Item_25 (by decide) rfl h2 (by decide) rfl rfl (Nat.le_of_ble_eq_true rfl) d_Item_expect_7 (fun H locs hZ => ?_)
  obtain ⟨M3, eM3⟩ : ∃ zz : mm_M, zz = mm_up M1 a (ob 7 5 [.int st, .long fi, .long la, .int x, .int y, .long du, .int lt, .int lo]) := ⟨_, rfl⟩
  have hZ : mm_S g s M3 H locs := by rw [eM3]; exact hZ
  have h4 := (congrFun eM3 a).trans (mm_self _ _ _)
  refine lv_aload_n hx hb d_Item_expect_10 rfl (lv_at hl 0 rfl) ?_
  refine lv_lload_n hx hb d_Item_expect_11 rfl (lv_at hl 3 rfl) ?_
  refine mm_put E hZ cl_Item fl_Item_28 (by decide) rfl h4 (by decide) rfl rfl (Nat.le_of_ble_eq_true rfl) d_Item_expect_12 (fun H locs hZ => ?_)
  obtain ⟨M5, eM5⟩ : ∃ zz : mm_M, zz = mm_up M3 a (ob 7 5 [.int st, .long fi, .long la, .int x, .int y, .long z, .int lt, .int lo]) := ⟨_, rfl⟩
  have hZ : mm_S g s M5 H locs := by rw [eM5]; exact hZ
  have h6 := (congrFun eM5 a).trans (mm_self _ _ _)
  exact mm_vret E hr hlk eQ hZ d_Item_expect_15 ⟨rfl, (by rw [eM5, eM3, eM1]; simp only [mm_uu])⟩
set_option maxHeartbeats 4000000 in
set_option maxRecDepth 100000 in
theorem c_Item_toldState (l : Launch) (g : mm_G) {M0 : mm_M} {a : Nat} {st : Int32} {fi la : Int64} {ro pl : Int32} {du : Int64} {lt lo : Int32} (h : M0 a = some (itc st fi la ro pl du lt lo)) : Ci l g y_Item_toldState b_Item_toldState 1 .int (rk 0 0 0 0) M0 [.ref a] (fun r M' => M' = M0 ∧ r = if ¬ lo = 0 then st + 200 else if ¬ lt = 0 then st + 100 else st) := by
  refine mm_enter (by decide) (Nat.le_of_ble_eq_true rfl) (fun pG eV s m args below meth cdx ls Q E hml hr hlk hnm hZ hl eQ => ?_)
  have hx := E.1
  have hb := E.2.1
  have hl : lv_has ls 1 [(0, .ref a)] := hl
  refine lv_aload_n hx hb d_Item_toldState_0 rfl (lv_at hl 0 rfl) ?_
  refine mm_get E hZ cl_Item fl_Item_35 (by decide) h rfl d_Item_toldState_1 ?_
  refine lv_if_eq (tgt := 16) hx hb d_Item_toldState_4 (by decide) (fun c4 => ?_) (fun c4 => ?_)
  · refine lv_aload_n hx hb d_Item_toldState_16 rfl (lv_at hl 0 rfl) ?_
    refine mm_get E hZ cl_Item fl_Item_31 (by decide) h rfl d_Item_toldState_17 ?_
    refine lv_if_eq (tgt := 33) hx hb d_Item_toldState_20 (by decide) (fun c20 => ?_) (fun c20 => ?_)
    · refine lv_aload_n hx hb d_Item_toldState_33 rfl (lv_at hl 0 rfl) ?_
      refine mm_get E hZ cl_Item fl_Item_9 (by decide) h rfl d_Item_toldState_34 ?_
      exact mm_iret (v := st) E hr hlk eQ hZ d_Item_toldState_37 ⟨_, rfl, rfl, by rw [if_neg (fun q => q c4), if_neg (fun q => q c20)]⟩
    · refine lv_aload_n hx hb d_Item_toldState_23 rfl (lv_at hl 0 rfl) ?_
      refine mm_get E hZ cl_Item fl_Item_9 (by decide) h rfl d_Item_toldState_24 ?_
      refine lv_bipush (v := 100) hx hb d_Item_toldState_27 (by decide) ?_
      refine lv_iadd hx hb d_Item_toldState_29 ?_
      refine lv_goto (tgt := 37) hx hb d_Item_toldState_30 (by decide) ?_
      exact mm_iret (v := st + 100) E hr hlk eQ hZ d_Item_toldState_37 ⟨_, rfl, rfl, by rw [if_neg (fun q => q c4), if_pos c20]⟩
  · refine lv_aload_n hx hb d_Item_toldState_7 rfl (lv_at hl 0 rfl) ?_
    refine mm_get E hZ cl_Item fl_Item_9 (by decide) h rfl d_Item_toldState_8 ?_
    refine lv_sipush (v := 200) hx hb d_Item_toldState_11 (by decide) ?_
    refine lv_iadd hx hb d_Item_toldState_14 ?_
    exact mm_iret (v := st + 200) E hr hlk eQ hZ d_Item_toldState_15 ⟨_, rfl, rfl, by rw [if_pos c4]⟩
set_option maxHeartbeats 4000000 in
set_option maxRecDepth 100000 in
theorem c_Item_mayComeAt (l : Launch) (g : mm_G) {M0 : mm_M} {a : Nat} {st : Int32} {fi la : Int64} {ro pl : Int32} {du : Int64} {lt lo : Int32} (h : M0 a = some (itc st fi la ro pl du lt lo)) (t : Int64) : Ci l g y_Item_mayComeAt b_Item_mayComeAt 3 .boolean (rk 1 20 0 0) M0 [.ref a, .long t] (fun r M' => M' = M0 ∧ r = b32 (0 ≤ t ∧ t ≤ 1000000000 ∧ (st = (-1) ∨ la ≤ t))) := by
  refine mm_enter (by decide) (Nat.le_of_ble_eq_true rfl) (fun pG eV s m args below meth cdx ls Q E hml hr hlk hnm hZ hl eQ => ?_)
  have hx := E.1
  have hb := E.2.1
  have hl : lv_has ls 3 [(0, .ref a), (1, .long t)] := hl
  refine lv_lload_n hx hb d_Item_mayComeAt_0 rfl (lv_at hl 1 rfl) ?_
  refine lv_lconst (v := 0) hx hb d_Item_mayComeAt_1 (by decide) ?_
  refine W.lcmp hx hb d_Item_mayComeAt_2 ?_
  refine lv_if_lt (tgt := 34) hx hb d_Item_mayComeAt_3 (by decide) (fun c3 => ?_) (fun c3 => ?_)
  · have c3 := (lg_cmp_lt _ _).mp c3
    refine lv_iconst (v := 0) hx hb d_Item_mayComeAt_34 (by decide) ?_
    exact mm_zret (v := 0) E hr hlk eQ hZ rfl d_Item_mayComeAt_35 ⟨_, rfl, rfl, b32_f (fun z => absurd z.1 (Int64.not_le.mpr c3))⟩
  · have c3 := mt (lg_cmp_lt _ _).mpr c3
    refine lv_lload_n hx hb d_Item_mayComeAt_6 rfl (lv_at hl 1 rfl) ?_
    refine lv_ldc2 (v := 1000000000) hx hb E.2.2.1 (E.2.2.2.1 _ w_311) d_Item_mayComeAt_7 ?_
    refine W.lcmp hx hb d_Item_mayComeAt_10 ?_
    refine lv_if_gt (tgt := 34) hx hb d_Item_mayComeAt_11 (by decide) (fun c11 => ?_) (fun c11 => ?_)
    · have c11 := (lg_cmp_gt _ _).mp c11
      refine lv_iconst (v := 0) hx hb d_Item_mayComeAt_34 (by decide) ?_
      exact mm_zret (v := 0) E hr hlk eQ hZ rfl d_Item_mayComeAt_35 ⟨_, rfl, rfl, b32_f (fun z => absurd z.2.1 (Int64.not_le.mpr c11))⟩
    · have c11 := mt (lg_cmp_gt _ _).mpr c11
      refine lv_aload_n hx hb d_Item_mayComeAt_14 rfl (lv_at hl 0 rfl) ?_
      refine mm_calli (mm_runV (As := []) (rest := []) E hZ hml hl.1 lk_Item_40 me_Item_isNew in_Item_isNew (c_Item_isNew l g h) h cl_Item.1 ⟨Nat.le_of_ble_eq_true rfl, Nat.le_of_ble_eq_true rfl⟩ rfl (Nat.le_of_ble_eq_true rfl) d_Item_mayComeAt_15 ⟨Nat.le_of_ble_eq_true rfl, Nat.le_of_ble_eq_true rfl⟩) hZ (fun r1 M1 H locs hp hZ => ?_)
      rw [hp.1] at hZ
      replace hp := hp.2
      refine lv_if_ne (tgt := 30) hx hb d_Item_mayComeAt_18 (by decide) (fun c18 => ?_) (fun c18 => ?_)
      · refine lv_iconst (v := 1) hx hb d_Item_mayComeAt_30 (by decide) ?_
        refine lv_goto (tgt := 35) hx hb d_Item_mayComeAt_31 (by decide) ?_
        exact mm_zret (v := 1) E hr hlk eQ hZ rfl d_Item_mayComeAt_35 ⟨_, rfl, rfl, b32_t ⟨Int64.not_lt.mp c3, Int64.not_lt.mp c11, Or.inl (b32_ne0 (hp ▸ c18))⟩⟩
      · refine lv_lload_n hx hb d_Item_mayComeAt_21 rfl (lv_at hl 1 rfl) ?_
        refine lv_aload_n hx hb d_Item_mayComeAt_22 rfl (lv_at hl 0 rfl) ?_
        refine mm_get E hZ cl_Item fl_Item_19 (by decide) h rfl d_Item_mayComeAt_23 ?_
        refine W.lcmp hx hb d_Item_mayComeAt_26 ?_
        refine lv_if_lt (tgt := 34) hx hb d_Item_mayComeAt_27 (by decide) (fun c27 => ?_) (fun c27 => ?_)
        · have c27 := (lg_cmp_lt _ _).mp c27
          refine lv_iconst (v := 0) hx hb d_Item_mayComeAt_34 (by decide) ?_
          exact mm_zret (v := 0) E hr hlk eQ hZ rfl d_Item_mayComeAt_35 ⟨_, rfl, rfl, b32_f (fun z => z.2.2.elim (b32_eq0.mp (hp ▸ c18)) (Int64.not_le.mpr c27))⟩
        · have c27 := mt (lg_cmp_lt _ _).mpr c27
          refine lv_iconst (v := 1) hx hb d_Item_mayComeAt_30 (by decide) ?_
          refine lv_goto (tgt := 35) hx hb d_Item_mayComeAt_31 (by decide) ?_
          exact mm_zret (v := 1) E hr hlk eQ hZ rfl d_Item_mayComeAt_35 ⟨_, rfl, rfl, b32_t ⟨Int64.not_lt.mp c3, Int64.not_lt.mp c11, Or.inr (Int64.not_lt.mp c27)⟩⟩
set_option maxHeartbeats 4000000 in
set_option maxRecDepth 100000 in
theorem c_Item_takeEvent (l : Launch) (g : mm_G) {M0 : mm_M} {a : Nat} {st : Int32} {fi la : Int64} {ro pl : Int32} {du : Int64} {lt lo : Int32} (h : M0 a = some (itc st fi la ro pl du lt lo)) (x : Int32) (t : Int64) : Cv l g y_Item_takeEvent b_Item_takeEvent 4 (rk 1 20 0 0) M0 [.ref a, .int x, .long t] (fun M' => M' = mm_up M0 a (itc x (if st = (-1) then t else fi) t ro pl du lt lo)) := by
  refine mm_enter (by decide) (Nat.le_of_ble_eq_true rfl) (fun pG eV s m args below meth cdx ls Q E hml hr hlk hnm hZ hl eQ => ?_)
  have hx := E.1
  have hb := E.2.1
  have hl : lv_has ls 4 [(0, .ref a), (1, .int x), (2, .long t)] := hl
  refine lv_aload_n hx hb d_Item_takeEvent_0 rfl (lv_at hl 0 rfl) ?_
  refine mm_calli (mm_runV (As := []) (rest := []) E hZ hml hl.1 lk_Item_40 me_Item_isNew in_Item_isNew (c_Item_isNew l g h) h cl_Item.1 ⟨Nat.le_of_ble_eq_true rfl, Nat.le_of_ble_eq_true rfl⟩ rfl (Nat.le_of_ble_eq_true rfl) d_Item_takeEvent_1 ⟨Nat.le_of_ble_eq_true rfl, Nat.le_of_ble_eq_true rfl⟩) hZ (fun r1 M1 H locs hp hZ => ?_)
  rw [hp.1] at hZ
  replace hp := hp.2
  refine lv_if_eq (tgt := 12) hx hb d_Item_takeEvent_4 (by decide) (fun c4 => ?_) (fun c4 => ?_)
  · refine lv_aload_n hx hb d_Item_takeEvent_12 rfl (lv_at hl 0 rfl) ?_
    refine lv_iload_n hx hb d_Item_takeEvent_13 rfl (lv_at hl 1 rfl) ?_
    refine mm_put E hZ cl_Item fl_Item_9 (by decide) rfl h (by decide) rfl rfl (Nat.le_of_ble_eq_true rfl) d_Item_takeEvent_14 (fun H locs hZ => ?_)
    obtain ⟨M2, eM2⟩ : ∃ zz : mm_M, zz = mm_up M0 a (ob 7 5 [.int x, .long fi, .long la, .int ro, .int pl, .long du, .int lt, .int lo]) := ⟨_, rfl⟩
    have hZ : mm_S g s M2 H locs := by rw [eM2]; exact hZ
    have h3 := (congrFun eM2 a).trans (mm_self _ _ _)
    refine lv_aload_n hx hb d_Item_takeEvent_17 rfl (lv_at hl 0 rfl) ?_
    refine lv_lload_n hx hb d_Item_takeEvent_18 rfl (lv_at hl 2 rfl) ?_
    refine mm_put E hZ cl_Item fl_Item_19 (by decide) rfl h3 (by decide) rfl rfl (Nat.le_of_ble_eq_true rfl) d_Item_takeEvent_19 (fun H locs hZ => ?_)
    obtain ⟨M4, eM4⟩ : ∃ zz : mm_M, zz = mm_up M2 a (ob 7 5 [.int x, .long fi, .long t, .int ro, .int pl, .long du, .int lt, .int lo]) := ⟨_, rfl⟩
    have hZ : mm_S g s M4 H locs := by rw [eM4]; exact hZ
    have h5 := (congrFun eM4 a).trans (mm_self _ _ _)
    exact mm_vret E hr hlk eQ hZ d_Item_takeEvent_22 ⟨rfl, by rw [if_neg (b32_eq0.mp (hp ▸ c4))]; exact (by rw [eM4, eM2]; simp only [mm_uu])⟩
  · refine lv_aload_n hx hb d_Item_takeEvent_7 rfl (lv_at hl 0 rfl) ?_
    refine lv_lload_n hx hb d_Item_takeEvent_8 rfl (lv_at hl 2 rfl) ?_
    refine mm_put E hZ cl_Item fl_Item_15 (by decide) rfl h (by decide) rfl rfl (Nat.le_of_ble_eq_true rfl) d_Item_takeEvent_9 (fun H locs hZ => ?_)
    obtain ⟨M6, eM6⟩ : ∃ zz : mm_M, zz = mm_up M0 a (ob 7 5 [.int st, .long t, .long la, .int ro, .int pl, .long du, .int lt, .int lo]) := ⟨_, rfl⟩
    have hZ : mm_S g s M6 H locs := by rw [eM6]; exact hZ
    have h7 := (congrFun eM6 a).trans (mm_self _ _ _)
    refine lv_aload_n hx hb d_Item_takeEvent_12 rfl (lv_at hl 0 rfl) ?_
    refine lv_iload_n hx hb d_Item_takeEvent_13 rfl (lv_at hl 1 rfl) ?_
    refine mm_put E hZ cl_Item fl_Item_9 (by decide) rfl h7 (by decide) rfl rfl (Nat.le_of_ble_eq_true rfl) d_Item_takeEvent_14 (fun H locs hZ => ?_)
    obtain ⟨M8, eM8⟩ : ∃ zz : mm_M, zz = mm_up M6 a (ob 7 5 [.int x, .long t, .long la, .int ro, .int pl, .long du, .int lt, .int lo]) := ⟨_, rfl⟩
    have hZ : mm_S g s M8 H locs := by rw [eM8]; exact hZ
    have h9 := (congrFun eM8 a).trans (mm_self _ _ _)
    refine lv_aload_n hx hb d_Item_takeEvent_17 rfl (lv_at hl 0 rfl) ?_
    refine lv_lload_n hx hb d_Item_takeEvent_18 rfl (lv_at hl 2 rfl) ?_
    refine mm_put E hZ cl_Item fl_Item_19 (by decide) rfl h9 (by decide) rfl rfl (Nat.le_of_ble_eq_true rfl) d_Item_takeEvent_19 (fun H locs hZ => ?_)
    obtain ⟨M10, eM10⟩ : ∃ zz : mm_M, zz = mm_up M8 a (ob 7 5 [.int x, .long t, .long t, .int ro, .int pl, .long du, .int lt, .int lo]) := ⟨_, rfl⟩
    have hZ : mm_S g s M10 H locs := by rw [eM10]; exact hZ
    have h11 := (congrFun eM10 a).trans (mm_self _ _ _)
    exact mm_vret E hr hlk eQ hZ d_Item_takeEvent_22 ⟨rfl, by rw [if_pos (b32_ne0 (hp ▸ c4))]; exact (by rw [eM10, eM8, eM6]; simp only [mm_uu])⟩
set_option maxHeartbeats 4000000 in
set_option maxRecDepth 100000 in
theorem c_Item_daysUntil (l : Launch) (g : mm_G) {M0 : mm_M} {a : Nat} {st : Int32} {fi la : Int64} {ro pl : Int32} {du : Int64} {lt lo : Int32} (h : M0 a = some (itc st fi la ro pl du lt lo)) (t : Int64) : Ci l g y_Item_daysUntil b_Item_daysUntil 3 .int (rk 1 20 0 0) M0 [.ref a, .long t] (fun r M' => M' = M0 ∧ r = if st = (-1) then 0 else ((t - fi) / 86400).toInt32) := by
  refine mm_enter (by decide) (Nat.le_of_ble_eq_true rfl) (fun pG eV s m args below meth cdx ls Q E hml hr hlk hnm hZ hl eQ => ?_)
  have hx := E.1
  have hb := E.2.1
  have hl : lv_has ls 3 [(0, .ref a), (1, .long t)] := hl
  refine lv_aload_n hx hb d_Item_daysUntil_0 rfl (lv_at hl 0 rfl) ?_
  refine mm_calli (mm_runV (As := []) (rest := []) E hZ hml hl.1 lk_Item_40 me_Item_isNew in_Item_isNew (c_Item_isNew l g h) h cl_Item.1 ⟨Nat.le_of_ble_eq_true rfl, Nat.le_of_ble_eq_true rfl⟩ rfl (Nat.le_of_ble_eq_true rfl) d_Item_daysUntil_1 ⟨Nat.le_of_ble_eq_true rfl, Nat.le_of_ble_eq_true rfl⟩) hZ (fun r1 M1 H locs hp hZ => ?_)
  rw [hp.1] at hZ
  replace hp := hp.2
  refine lv_if_eq (tgt := 11) hx hb d_Item_daysUntil_4 (by decide) (fun c4 => ?_) (fun c4 => ?_)
  · refine lv_lload_n hx hb d_Item_daysUntil_11 rfl (lv_at hl 1 rfl) ?_
    refine lv_aload_n hx hb d_Item_daysUntil_12 rfl (lv_at hl 0 rfl) ?_
    refine mm_get E hZ cl_Item fl_Item_15 (by decide) h rfl d_Item_daysUntil_13 ?_
    refine lv_lsub hx hb d_Item_daysUntil_16 ?_
    refine lv_ldc2 (v := 86400) hx hb E.2.2.1 (E.2.2.2.1 _ w_324) d_Item_daysUntil_17 ?_
    refine lv_ldiv hx hb d_Item_daysUntil_20 (by decide) ?_
    refine lv_l2i hx hb d_Item_daysUntil_21 rfl ?_
    exact mm_iret (v := ((t - fi) / 86400).toInt32) E hr hlk eQ hZ d_Item_daysUntil_22 ⟨_, rfl, rfl, by rw [if_neg (b32_eq0.mp (hp ▸ c4))]⟩
  · refine lv_iconst (v := 0) hx hb d_Item_daysUntil_7 (by decide) ?_
    refine lv_goto (tgt := 22) hx hb d_Item_daysUntil_8 (by decide) ?_
    exact mm_iret (v := 0) E hr hlk eQ hZ d_Item_daysUntil_22 ⟨_, rfl, rfl, by rw [if_pos (b32_ne0 (hp ▸ c4))]⟩
