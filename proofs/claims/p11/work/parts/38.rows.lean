/-! THE CLASS: Row, RowList, AlarmList -/
abbrev rowc (nu st pl sv : Int32) (wi : Int64) (fl hf : Int32) : mm_E := ob 10 7 [.int nu, .int st, .int pl, .int sv, .long wi, .int fl, .int hf]
abbrev alac (v : Nat → Int32) : mm_E := ob 12 1 [.int (v 0), .int (v 1), .int (v 2), .int (v 3), .int (v 4)]
/-- the rows: all, and those that failed -/
def Rl (g : mm_G) (M : mm_M) (o la lf c n cf nf : Nat) (ad af : Nat → Nat) : Prop := M o = some (ob 2 8 [.ref la, .ref lf]) ∧ Al g M 8 la c n ad ∧ Al g M 9 lf cf nf af
/-- the alarms that were told -/
def Tl (g : mm_G) (M : mm_M) (o lt c n : Nat) (ad : Nat → Nat) (F : Nat → Nat → Int32) : Prop := M o = some (ob 4 2 [.ref lt]) ∧ Al g M 11 lt c n ad ∧ ∀ i, i < c → M (ad i) = some (alac (F i))
theorem Al.kept {g : mm_G} {M M' : mm_M} {t la c n : Nat} {ad : Nat → Nat} (h : Al g M t la c n ad) (hs : mm_same t M M') : Al g M' t la c n ad := by
  obtain ⟨mo, ea, h1, h2⟩ := h
  refine ⟨mo, ea, hs _ _ h1, ?_⟩
  rcases h2 with h2 | ⟨k1, k2, k3, f, k4, k5, k6⟩
  · exact Or.inl h2
  · exact Or.inr ⟨k1, k2, k3, f, hs _ _ k4, k5, k6⟩
theorem Al.obj {g : mm_G} {M : mm_M} {t la c n : Nat} {ad : Nat → Nat} (h : Al g M t la c n ad) : ∃ vs, M la = some (ob t 10 vs) := by
  obtain ⟨mo, ea, h1, h2⟩ := h
  exact ⟨_, h1⟩
theorem Al.lt {g : mm_G} {M : mm_M} {t la c n : Nat} {ad : Nat → Nat} (h : Al g M t la c n ad) : c < 2 ^ 20 := by
  obtain ⟨mo, ea, h1, ⟨_, h2, _⟩ | ⟨k1, k2, k3, -⟩⟩ := h <;> omega
theorem row_cast : Cond.castable "ExpectRows$Row" "java/lang/Object" ∈ NW := w_799
theorem alarm_cast : Cond.castable "ExpectRows$Alarm" "java/lang/Object" ∈ NW := w_800
theorem rows_el {M : mm_M} {c : Nat} {ad : Nat → Nat} (h : ∀ i, i < c → ∃ nu st pl sv wi fl hf, M (ad i) = some (rowc nu st pl sv wi fl hf)) : elOk M c ad := fun i hi => by
  obtain ⟨nu, st, pl, sv, wi, fl, hf, h⟩ := h i hi
  exact ⟨10, 7, _, _, h, rfl, row_cast⟩
theorem i_neg_of {i : Int32} (h : i < 0) (j : Nat) (hj : j < 2 ^ 31) : i ≠ nI j := fun e => nI_pos hj (e ▸ h)
theorem i_nat {i : Int32} (h : ¬ i < 0) : ∃ j : Nat, j < 2 ^ 31 ∧ i = nI j := nI_of h
theorem fs_X : ∀ j, j < 7 → defaultValue (t_X j) = vp_V [.null, .null, .null, .null, .null, .null, .long 0] j := fun j hj => by
  match j, hj with
  | 0, _ => rfl
  | 1, _ => rfl
  | 2, _ => rfl
  | 3, _ => rfl
  | 4, _ => rfl
  | 5, _ => rfl
  | 6, _ => rfl
  | j + 7, h => exact absurd h (by omega)
theorem fs_Alarm : ∀ j, j < 5 → defaultValue (t_Alarm j) = vp_V [.int 0, .int 0, .int 0, .int 0, .int 0] j := fun j hj => by
  match j, hj with
  | 0, _ => rfl
  | 1, _ => rfl
  | 2, _ => rfl
  | 3, _ => rfl
  | 4, _ => rfl
  | j + 5, h => exact absurd h (by omega)
theorem fs_AlarmL : ∀ j, j < 1 → defaultValue (t_AlarmL j) = vp_V [.null] j := fun j hj => by
  match j, hj with
  | 0, _ => rfl
  | j + 1, h => exact absurd h (by omega)
theorem fs_Deliv : ∀ j, j < 3 → defaultValue (t_Deliv j) = vp_V [.null, .null, .int 0] j := fun j hj => by
  match j, hj with
  | 0, _ => rfl
  | 1, _ => rfl
  | 2, _ => rfl
  | j + 3, h => exact absurd h (by omega)
theorem fs_Holi : ∀ j, j < 2 → defaultValue (t_Holi j) = vp_V [.null, .int 0] j := fun j hj => by
  match j, hj with
  | 0, _ => rfl
  | 1, _ => rfl
  | j + 2, h => exact absurd h (by omega)
theorem fs_Item : ∀ j, j < 8 → defaultValue (t_Item j) = vp_V [.int 0, .long 0, .long 0, .int 0, .int 0, .long 0, .int 0, .int 0] j := fun j hj => by
  match j, hj with
  | 0, _ => rfl
  | 1, _ => rfl
  | 2, _ => rfl
  | 3, _ => rfl
  | 4, _ => rfl
  | 5, _ => rfl
  | 6, _ => rfl
  | 7, _ => rfl
  | j + 8, h => exact absurd h (by omega)
theorem fs_Cnts : ∀ j, j < 2 → defaultValue (t_Cnts j) = vp_V [.null, .null] j := fun j hj => by
  match j, hj with
  | 0, _ => rfl
  | 1, _ => rfl
  | j + 2, h => exact absurd h (by omega)
theorem fs_Row : ∀ j, j < 7 → defaultValue (t_Row j) = vp_V [.int 0, .int 0, .int 0, .int 0, .long 0, .int 0, .int 0] j := fun j hj => by
  match j, hj with
  | 0, _ => rfl
  | 1, _ => rfl
  | 2, _ => rfl
  | 3, _ => rfl
  | 4, _ => rfl
  | 5, _ => rfl
  | 6, _ => rfl
  | j + 7, h => exact absurd h (by omega)
theorem fs_RowL : ∀ j, j < 2 → defaultValue (t_RowL j) = vp_V [.null, .null] j := fun j hj => by
  match j, hj with
  | 0, _ => rfl
  | 1, _ => rfl
  | j + 2, h => exact absurd h (by omega)
theorem fs_AL : ∀ j, j < 3 → defaultValue (t_AL j) = vp_V [.int 0, .null, .int 0] j := fun j hj => by
  match j, hj with
  | 0, _ => rfl
  | 1, _ => rfl
  | 2, _ => rfl
  | j + 3, h => exact absurd h (by omega)
set_option maxHeartbeats 4000000 in
set_option maxRecDepth 100000 in
theorem c_Row_init (l : Launch) (g : mm_G) {M0 : mm_M} {a : Nat} (h : M0 a = some (rowc 0 0 0 0 0 0 0)) (nu st pl sv : Int32) (wi : Int64) {fl : Int32} (hfl : bo fl) : Cv l g y_Row_init b_Row_init 8 (rk 1 20 0 0) M0 [.ref a, .int nu, .int st, .int pl, .int sv, .long wi, .int fl] (fun M' => M' = mm_up M0 a (rowc nu st pl sv wi fl 0)) := by
  refine mm_enter (by decide) (Nat.le_of_ble_eq_true rfl) (fun pG eV s m args below meth cdx ls Q E hml hr hlk hnm hZ hl eQ => ?_)
  have hx := E.1
  have hb := E.2.1
  have hl : lv_has ls 8 [(0, .ref a), (1, .int nu), (2, .int st), (3, .int pl), (4, .int sv), (5, .long wi), (7, .int fl)] := hl
  refine lv_aload_n hx hb d_Row_init_0 rfl (lv_at hl 0 rfl) ?_
  refine mm_objI E hml hl.1 w_213 w_30 w_31 (Nat.le_of_ble_eq_true rfl) (Nat.le_of_ble_eq_true rfl) d_Row_init_1 ?_
  refine lv_aload_n hx hb d_Row_init_4 rfl (lv_at hl 0 rfl) ?_
  refine lv_iconst (v := 0) hx hb d_Row_init_5 (by decide) ?_
  refine mm_put E hZ cl_Row fl_Row_9 (by decide) rfl h (by decide) rfl rfl (Nat.le_of_ble_eq_true rfl) d_Row_init_6 (fun H locs hZ => ?_)
  obtain ⟨M1, eM1⟩ : ∃ zz : mm_M, zz = mm_up M0 a (ob 10 7 [.int 0, .int 0, .int 0, .int 0, .long 0, .int 0, .int 0]) := ⟨_, rfl⟩
  have hZ : mm_S g s M1 H locs := by rw [eM1]; exact hZ
  have h2 := (congrFun eM1 a).trans (mm_self _ _ _)
  refine lv_aload_n hx hb d_Row_init_9 rfl (lv_at hl 0 rfl) ?_
  refine lv_iload_n hx hb d_Row_init_10 rfl (lv_at hl 1 rfl) ?_
  refine mm_putF (k := 0) E hnm hZ cl_Row w_214 (by decide) rfl rfl h2 (by decide) rfl rfl (Nat.le_of_ble_eq_true rfl) d_Row_init_11 (fun H locs hZ => ?_)
  obtain ⟨M3, eM3⟩ : ∃ zz : mm_M, zz = mm_up M1 a (ob 10 7 [.int nu, .int 0, .int 0, .int 0, .long 0, .int 0, .int 0]) := ⟨_, rfl⟩
  have hZ : mm_S g s M3 H locs := by rw [eM3]; exact hZ
  have h4 := (congrFun eM3 a).trans (mm_self _ _ _)
  refine lv_aload_n hx hb d_Row_init_14 rfl (lv_at hl 0 rfl) ?_
  refine lv_iload_n hx hb d_Row_init_15 rfl (lv_at hl 2 rfl) ?_
  refine mm_putF (k := 1) E hnm hZ cl_Row w_217 (by decide) rfl rfl h4 (by decide) rfl rfl (Nat.le_of_ble_eq_true rfl) d_Row_init_16 (fun H locs hZ => ?_)
  obtain ⟨M5, eM5⟩ : ∃ zz : mm_M, zz = mm_up M3 a (ob 10 7 [.int nu, .int st, .int 0, .int 0, .long 0, .int 0, .int 0]) := ⟨_, rfl⟩
  have hZ : mm_S g s M5 H locs := by rw [eM5]; exact hZ
  have h6 := (congrFun eM5 a).trans (mm_self _ _ _)
  refine lv_aload_n hx hb d_Row_init_19 rfl (lv_at hl 0 rfl) ?_
  refine lv_iload_n hx hb d_Row_init_20 rfl (lv_at hl 3 rfl) ?_
  refine mm_putF (k := 2) E hnm hZ cl_Row w_218 (by decide) rfl rfl h6 (by decide) rfl rfl (Nat.le_of_ble_eq_true rfl) d_Row_init_21 (fun H locs hZ => ?_)
  obtain ⟨M7, eM7⟩ : ∃ zz : mm_M, zz = mm_up M5 a (ob 10 7 [.int nu, .int st, .int pl, .int 0, .long 0, .int 0, .int 0]) := ⟨_, rfl⟩
  have hZ : mm_S g s M7 H locs := by rw [eM7]; exact hZ
  have h8 := (congrFun eM7 a).trans (mm_self _ _ _)
  refine lv_aload_n hx hb d_Row_init_24 rfl (lv_at hl 0 rfl) ?_
  refine lv_iload hx hb d_Row_init_25 (lv_at hl 4 rfl) ?_
  refine mm_putF (k := 3) E hnm hZ cl_Row w_219 (by decide) rfl rfl h8 (by decide) rfl rfl (Nat.le_of_ble_eq_true rfl) d_Row_init_27 (fun H locs hZ => ?_)
  obtain ⟨M9, eM9⟩ : ∃ zz : mm_M, zz = mm_up M7 a (ob 10 7 [.int nu, .int st, .int pl, .int sv, .long 0, .int 0, .int 0]) := ⟨_, rfl⟩
  have hZ : mm_S g s M9 H locs := by rw [eM9]; exact hZ
  have h10 := (congrFun eM9 a).trans (mm_self _ _ _)
  refine lv_aload_n hx hb d_Row_init_30 rfl (lv_at hl 0 rfl) ?_
  refine lv_lload hx hb d_Row_init_31 (lv_at hl 5 rfl) ?_
  refine mm_putF (k := 4) E hnm hZ cl_Row w_220 (by decide) rfl rfl h10 (by decide) rfl rfl (Nat.le_of_ble_eq_true rfl) d_Row_init_33 (fun H locs hZ => ?_)
  obtain ⟨M11, eM11⟩ : ∃ zz : mm_M, zz = mm_up M9 a (ob 10 7 [.int nu, .int st, .int pl, .int sv, .long wi, .int 0, .int 0]) := ⟨_, rfl⟩
  have hZ : mm_S g s M11 H locs := by rw [eM11]; exact hZ
  have h12 := (congrFun eM11 a).trans (mm_self _ _ _)
  refine lv_aload_n hx hb d_Row_init_36 rfl (lv_at hl 0 rfl) ?_
  refine lv_iload hx hb d_Row_init_37 (lv_at hl 6 rfl) ?_
  refine mm_putF (k := 5) E hnm hZ cl_Row w_222 (by decide) rfl rfl h12 (by decide) (bo_n hfl) (bo_f hfl) (Nat.le_of_ble_eq_true rfl) d_Row_init_39 (fun H locs hZ => ?_)
  obtain ⟨M13, eM13⟩ : ∃ zz : mm_M, zz = mm_up M11 a (ob 10 7 [.int nu, .int st, .int pl, .int sv, .long wi, .int fl, .int 0]) := ⟨_, rfl⟩
  have hZ : mm_S g s M13 H locs := by rw [eM13]; exact hZ
  have h14 := (congrFun eM13 a).trans (mm_self _ _ _)
  exact mm_vret E hr hlk eQ hZ d_Row_init_42 ⟨rfl, (by rw [eM13, eM11, eM9, eM7, eM5, eM3, eM1]; simp only [mm_uu])⟩
set_option maxHeartbeats 4000000 in
set_option maxRecDepth 100000 in
theorem c_Row_isFor (l : Launch) (g : mm_G) {M0 : mm_M} {a : Nat} {nu st pl sv : Int32} {wi : Int64} {fl hf : Int32} (h : M0 a = some (rowc nu st pl sv wi fl hf)) (x y z : Int32) : Ci l g y_Row_isFor b_Row_isFor 4 .boolean (rk 0 0 0 0) M0 [.ref a, .int x, .int y, .int z] (fun r M' => M' = M0 ∧ r = b32 (st = x ∧ (pl = (-1) ∨ pl = y) ∧ (sv = (-1) ∨ sv = z))) := by
  refine mm_enter (by decide) (Nat.le_of_ble_eq_true rfl) (fun pG eV s m args below meth cdx ls Q E hml hr hlk hnm hZ hl eQ => ?_)
  have hx := E.1
  have hb := E.2.1
  have hl : lv_has ls 4 [(0, .ref a), (1, .int x), (2, .int y), (3, .int z)] := hl
  refine lv_aload_n hx hb d_Row_isFor_0 rfl (lv_at hl 0 rfl) ?_
  refine mm_get E hZ cl_Row fl_Row_19 (by decide) h rfl d_Row_isFor_1 ?_
  refine lv_iload_n hx hb d_Row_isFor_4 rfl (lv_at hl 1 rfl) ?_
  refine lv_icmp_ne (tgt := 44) hx hb d_Row_isFor_5 (by decide) (fun c5 => ?_) (fun c5 => ?_)
  · refine lv_iconst (v := 0) hx hb d_Row_isFor_44 (by decide) ?_
    exact mm_zret (v := 0) E hr hlk eQ hZ rfl d_Row_isFor_45 ⟨_, rfl, rfl, b32_f (fun q => c5 q.1)⟩
  · refine lv_aload_n hx hb d_Row_isFor_8 rfl (lv_at hl 0 rfl) ?_
    refine mm_get E hZ cl_Row fl_Row_22 (by decide) h rfl d_Row_isFor_9 ?_
    refine lv_iconst (v := (-1)) hx hb d_Row_isFor_12 (by decide) ?_
    refine lv_icmp_eq (tgt := 24) hx hb d_Row_isFor_13 (by decide) (fun c13 => ?_) (fun c13 => ?_)
    · refine lv_aload_n hx hb d_Row_isFor_24 rfl (lv_at hl 0 rfl) ?_
      refine mm_get E hZ cl_Row fl_Row_25 (by decide) h rfl d_Row_isFor_25 ?_
      refine lv_iconst (v := (-1)) hx hb d_Row_isFor_28 (by decide) ?_
      refine lv_icmp_eq (tgt := 40) hx hb d_Row_isFor_29 (by decide) (fun c29 => ?_) (fun c29 => ?_)
      · refine lv_iconst (v := 1) hx hb d_Row_isFor_40 (by decide) ?_
        refine lv_goto (tgt := 45) hx hb d_Row_isFor_41 (by decide) ?_
        exact mm_zret (v := 1) E hr hlk eQ hZ rfl d_Row_isFor_45 ⟨_, rfl, rfl, b32_t ⟨c5, Or.inl c13, Or.inl c29⟩⟩
      · refine lv_aload_n hx hb d_Row_isFor_32 rfl (lv_at hl 0 rfl) ?_
        refine mm_get E hZ cl_Row fl_Row_25 (by decide) h rfl d_Row_isFor_33 ?_
        refine lv_iload_n hx hb d_Row_isFor_36 rfl (lv_at hl 3 rfl) ?_
        refine lv_icmp_ne (tgt := 44) hx hb d_Row_isFor_37 (by decide) (fun c37 => ?_) (fun c37 => ?_)
        · refine lv_iconst (v := 0) hx hb d_Row_isFor_44 (by decide) ?_
          exact mm_zret (v := 0) E hr hlk eQ hZ rfl d_Row_isFor_45 ⟨_, rfl, rfl, b32_f (fun q => q.2.2.elim c29 c37)⟩
        · refine lv_iconst (v := 1) hx hb d_Row_isFor_40 (by decide) ?_
          refine lv_goto (tgt := 45) hx hb d_Row_isFor_41 (by decide) ?_
          exact mm_zret (v := 1) E hr hlk eQ hZ rfl d_Row_isFor_45 ⟨_, rfl, rfl, b32_t ⟨c5, Or.inl c13, Or.inr c37⟩⟩
    · refine lv_aload_n hx hb d_Row_isFor_16 rfl (lv_at hl 0 rfl) ?_
      refine mm_get E hZ cl_Row fl_Row_22 (by decide) h rfl d_Row_isFor_17 ?_
      refine lv_iload_n hx hb d_Row_isFor_20 rfl (lv_at hl 2 rfl) ?_
      refine lv_icmp_ne (tgt := 44) hx hb d_Row_isFor_21 (by decide) (fun c21 => ?_) (fun c21 => ?_)
      · refine lv_iconst (v := 0) hx hb d_Row_isFor_44 (by decide) ?_
        exact mm_zret (v := 0) E hr hlk eQ hZ rfl d_Row_isFor_45 ⟨_, rfl, rfl, b32_f (fun q => q.2.1.elim c13 c21)⟩
      · refine lv_aload_n hx hb d_Row_isFor_24 rfl (lv_at hl 0 rfl) ?_
        refine mm_get E hZ cl_Row fl_Row_25 (by decide) h rfl d_Row_isFor_25 ?_
        refine lv_iconst (v := (-1)) hx hb d_Row_isFor_28 (by decide) ?_
        refine lv_icmp_eq (tgt := 40) hx hb d_Row_isFor_29 (by decide) (fun c29 => ?_) (fun c29 => ?_)
        · refine lv_iconst (v := 1) hx hb d_Row_isFor_40 (by decide) ?_
          refine lv_goto (tgt := 45) hx hb d_Row_isFor_41 (by decide) ?_
          exact mm_zret (v := 1) E hr hlk eQ hZ rfl d_Row_isFor_45 ⟨_, rfl, rfl, b32_t ⟨c5, Or.inr c21, Or.inl c29⟩⟩
        · refine lv_aload_n hx hb d_Row_isFor_32 rfl (lv_at hl 0 rfl) ?_
          refine mm_get E hZ cl_Row fl_Row_25 (by decide) h rfl d_Row_isFor_33 ?_
          refine lv_iload_n hx hb d_Row_isFor_36 rfl (lv_at hl 3 rfl) ?_
          refine lv_icmp_ne (tgt := 44) hx hb d_Row_isFor_37 (by decide) (fun c37 => ?_) (fun c37 => ?_)
          · refine lv_iconst (v := 0) hx hb d_Row_isFor_44 (by decide) ?_
            exact mm_zret (v := 0) E hr hlk eQ hZ rfl d_Row_isFor_45 ⟨_, rfl, rfl, b32_f (fun q => q.2.2.elim c29 c37)⟩
          · refine lv_iconst (v := 1) hx hb d_Row_isFor_40 (by decide) ?_
            refine lv_goto (tgt := 45) hx hb d_Row_isFor_41 (by decide) ?_
            exact mm_zret (v := 1) E hr hlk eQ hZ rfl d_Row_isFor_45 ⟨_, rfl, rfl, b32_t ⟨c5, Or.inr c21, Or.inr c37⟩⟩
set_option maxHeartbeats 4000000 in
set_option maxRecDepth 100000 in
theorem c_RowL_init (l : Launch) (g : mm_G) {M0 : mm_M} {o : Nat} (h0 : M0 o = some (ob 2 8 [.null, .null])) (ad af : Nat → Nat) : Cv l g y_RowL_init b_RowL_init 1 (rk 4 80 2 6) M0 [.ref o] (fun M' => ∃ la lf, Rl g M' o la lf 0 0 0 0 ad af ∧ ∀ u, u ≠ 2 → u ≠ 8 → u ≠ 9 → mm_same u M0 M') := by
  refine mm_enter (by decide) (Nat.le_of_ble_eq_true rfl) (fun pG eV s m args below meth cdx ls Q E hml hr hlk hnm hZ hl eQ => ?_)
  have hx := E.1
  have hb := E.2.1
  have hl : lv_has ls 1 [(0, .ref o)] := hl
  refine lv_aload_n hx hb d_RowL_init_0 rfl (lv_at hl 0 rfl) ?_
  refine mm_objI E hml hl.1 w_37 w_30 w_31 (Nat.le_of_ble_eq_true rfl) (Nat.le_of_ble_eq_true rfl) d_RowL_init_1 ?_
  refine lv_aload_n hx hb d_RowL_init_4 rfl (lv_at hl 0 rfl) ?_
  refine mm_new 8 E hZ cl_AL w_38 ni_AL.1 ni_AL.2 fs_AL (Nat.le_of_ble_eq_true rfl) (Nat.le_of_ble_eq_true rfl) d_RowL_init_5 (fun la H hBla hNla hZ => ?_)
  obtain ⟨M1, eM1⟩ : ∃ zz : mm_M, zz = mm_up M0 la (ob 8 10 [.int 0, .null, .int 0]) := ⟨_, rfl⟩
  have hZ : mm_S g s M1 H [] := by rw [eM1]; exact hZ
  have h2 := (congrFun eM1 o).trans ((mm_ne _ _ (mm_apartN h0 hNla)).trans h0)
  have h3 := (congrFun eM1 la).trans (mm_self _ _ _)
  refine lv_dup hx hb d_RowL_init_8 rfl ?_
  refine mm_callv (mm_runI (As := []) (rest := [.ref la, .ref o]) E hZ hml hl.1 lk_RowL_11 me_AL_init in_AL_init (c_AL_init l g (by decide) h3 ad) ⟨Nat.le_of_ble_eq_true rfl, Nat.le_of_ble_eq_true rfl⟩ rfl (Nat.le_of_ble_eq_true rfl) d_RowL_init_9 ⟨Nat.le_of_ble_eq_true rfl, Nat.le_of_ble_eq_true rfl⟩) hZ (fun Ma H locs hp hZ => ?_)
  obtain ⟨hla, hsla⟩ := hp
  obtain ⟨vsla, hqla⟩ := hla.obj
  have hola := hsla 2 (by decide) _ _ h2
  refine mm_putF (k := 0) E hnm hZ cl_RowL w_64 (by decide) rfl rfl hola (by decide) rfl rfl (Nat.le_of_ble_eq_true rfl) d_RowL_init_12 (fun H locs hZ => ?_)
  obtain ⟨M5, eM5⟩ : ∃ zz : mm_M, zz = mm_up Ma o (ob 2 8 [.ref la, .null]) := ⟨_, rfl⟩
  have hZ : mm_S g s M5 H locs := by rw [eM5]; exact hZ
  have h6 := (congrFun eM5 la).trans ((mm_ne _ _ (mm_tag hqla hola (by decide))).trans hqla)
  have h7 := (congrFun eM5 o).trans (mm_self _ _ _)
  have hla2 := hla.kept (M' := M5) (by rw [eM5]; exact mm_same.up hola (by decide) _)
  refine lv_aload_n hx hb d_RowL_init_15 rfl (lv_at hl 0 rfl) ?_
  refine mm_new 9 E hZ cl_AL w_38 ni_AL.1 ni_AL.2 fs_AL (Nat.le_of_ble_eq_true rfl) (Nat.le_of_ble_eq_true rfl) d_RowL_init_16 (fun lf H hBlf hNlf hZ => ?_)
  obtain ⟨M8, eM8⟩ : ∃ zz : mm_M, zz = mm_up M5 lf (ob 9 10 [.int 0, .null, .int 0]) := ⟨_, rfl⟩
  have hZ : mm_S g s M8 H locs := by rw [eM8]; exact hZ
  have h9 := (congrFun eM8 o).trans ((mm_ne _ _ (mm_apartN h7 hNlf)).trans h7)
  have h10 := (congrFun eM8 lf).trans (mm_self _ _ _)
  refine lv_dup hx hb d_RowL_init_19 rfl ?_
  have hla3 := hla2.kept (M' := M8) (by rw [eM8]; exact mm_same.new hNlf _)
  refine mm_callv (mm_runI (As := []) (rest := [.ref lf, .ref o]) E hZ hml hl.1 lk_RowL_11 me_AL_init in_AL_init (c_AL_init l g (by decide) h10 af) ⟨Nat.le_of_ble_eq_true rfl, Nat.le_of_ble_eq_true rfl⟩ rfl (Nat.le_of_ble_eq_true rfl) d_RowL_init_20 ⟨Nat.le_of_ble_eq_true rfl, Nat.le_of_ble_eq_true rfl⟩) hZ (fun Mb H locs hp hZ => ?_)
  obtain ⟨hlf, hslf⟩ := hp
  obtain ⟨vslf, hqlf⟩ := hlf.obj
  have holf := hslf 2 (by decide) _ _ h9
  have hla4 := hla3.kept (hslf 8 (by decide))
  refine mm_putF (k := 1) E hnm hZ cl_RowL w_65 (by decide) rfl rfl holf (by decide) rfl rfl (Nat.le_of_ble_eq_true rfl) d_RowL_init_23 (fun H locs hZ => ?_)
  obtain ⟨M12, eM12⟩ : ∃ zz : mm_M, zz = mm_up Mb o (ob 2 8 [.ref la, .ref lf]) := ⟨_, rfl⟩
  have hZ : mm_S g s M12 H locs := by rw [eM12]; exact hZ
  have h13 := (congrFun eM12 lf).trans ((mm_ne _ _ (mm_tag hqlf holf (by decide))).trans hqlf)
  have h14 := (congrFun eM12 o).trans (mm_self _ _ _)
  have hla5 := hla4.kept (M' := M12) (by rw [eM12]; exact mm_same.up holf (by decide) _)
  have hlf5 := hlf.kept (M' := M12) (by rw [eM12]; exact mm_same.up holf (by decide) _)
  exact mm_vret E hr hlk eQ hZ d_RowL_init_26 ⟨rfl, la, lf, ⟨h14, hla5, hlf5⟩, fun u u2 u8 u9 => by
      rw [eM12]
      refine mm_same.tr ?_ (mm_same.up holf u2 _)
      refine mm_same.tr ?_ (hslf u u9)
      rw [eM8]
      refine mm_same.tr ?_ (mm_same.new hNlf _)
      rw [eM5]
      refine mm_same.tr ?_ (mm_same.up hola u2 _)
      refine mm_same.tr ?_ (hsla u u8)
      rw [eM1]
      exact mm_same.new hNla _⟩
set_option maxHeartbeats 4000000 in
set_option maxRecDepth 100000 in
theorem c_AlarmL_init (l : Launch) (g : mm_G) {M0 : mm_M} {o : Nat} (h0 : M0 o = some (ob 4 2 [.null])) (ad : Nat → Nat) (F : Nat → Nat → Int32) : Cv l g y_AlarmL_init b_AlarmL_init 1 (rk 4 80 1 3) M0 [.ref o] (fun M' => ∃ lt, Tl g M' o lt 0 0 ad F ∧ ∀ u, u ≠ 4 → u ≠ 11 → mm_same u M0 M') := by
  refine mm_enter (by decide) (Nat.le_of_ble_eq_true rfl) (fun pG eV s m args below meth cdx ls Q E hml hr hlk hnm hZ hl eQ => ?_)
  have hx := E.1
  have hb := E.2.1
  have hl : lv_has ls 1 [(0, .ref o)] := hl
  refine lv_aload_n hx hb d_AlarmL_init_0 rfl (lv_at hl 0 rfl) ?_
  refine mm_objI E hml hl.1 w_90 w_30 w_31 (Nat.le_of_ble_eq_true rfl) (Nat.le_of_ble_eq_true rfl) d_AlarmL_init_1 ?_
  refine lv_aload_n hx hb d_AlarmL_init_4 rfl (lv_at hl 0 rfl) ?_
  refine mm_new 11 E hZ cl_AL w_91 ni_AL.1 ni_AL.2 fs_AL (Nat.le_of_ble_eq_true rfl) (Nat.le_of_ble_eq_true rfl) d_AlarmL_init_5 (fun la H hBla hNla hZ => ?_)
  obtain ⟨M1, eM1⟩ : ∃ zz : mm_M, zz = mm_up M0 la (ob 11 10 [.int 0, .null, .int 0]) := ⟨_, rfl⟩
  have hZ : mm_S g s M1 H [] := by rw [eM1]; exact hZ
  have h2 := (congrFun eM1 o).trans ((mm_ne _ _ (mm_apartN h0 hNla)).trans h0)
  have h3 := (congrFun eM1 la).trans (mm_self _ _ _)
  refine lv_dup hx hb d_AlarmL_init_8 rfl ?_
  refine mm_callv (mm_runI (As := []) (rest := [.ref la, .ref o]) E hZ hml hl.1 lk_AlarmL_11 me_AL_init in_AL_init (c_AL_init l g (by decide) h3 ad) ⟨Nat.le_of_ble_eq_true rfl, Nat.le_of_ble_eq_true rfl⟩ rfl (Nat.le_of_ble_eq_true rfl) d_AlarmL_init_9 ⟨Nat.le_of_ble_eq_true rfl, Nat.le_of_ble_eq_true rfl⟩) hZ (fun Ma H locs hp hZ => ?_)
  obtain ⟨hla, hsla⟩ := hp
  obtain ⟨vsla, hqla⟩ := hla.obj
  have hola := hsla 4 (by decide) _ _ h2
  refine mm_putF (k := 0) E hnm hZ cl_AlarmL w_93 (by decide) rfl rfl hola (by decide) rfl rfl (Nat.le_of_ble_eq_true rfl) d_AlarmL_init_12 (fun H locs hZ => ?_)
  obtain ⟨M5, eM5⟩ : ∃ zz : mm_M, zz = mm_up Ma o (ob 4 2 [.ref la]) := ⟨_, rfl⟩
  have hZ : mm_S g s M5 H locs := by rw [eM5]; exact hZ
  have h6 := (congrFun eM5 la).trans ((mm_ne _ _ (mm_tag hqla hola (by decide))).trans hqla)
  have h7 := (congrFun eM5 o).trans (mm_self _ _ _)
  have hla5 := hla.kept (M' := M5) (by rw [eM5]; exact mm_same.up hola (by decide) _)
  exact mm_vret E hr hlk eQ hZ d_AlarmL_init_15 ⟨rfl, la, ⟨h7, hla5, fun i hi => absurd hi (Nat.not_lt_zero i)⟩, fun u u4 u11 => by
      rw [eM5]
      refine mm_same.tr ?_ (mm_same.up hola u4 _)
      refine mm_same.tr ?_ (hsla u u11)
      rw [eM1]
      exact mm_same.new hNla _⟩
set_option maxHeartbeats 4000000 in
set_option maxRecDepth 100000 in
theorem c_AlarmL_size (l : Launch) (g : mm_G) {M0 : mm_M} {o lt c n : Nat} {ad : Nat → Nat} {F : Nat → Nat → Int32} (h0 : Tl g M0 o lt c n ad F) : Ci l g y_AlarmL_size b_AlarmL_size 1 .int (rk 1 20 0 0) M0 [.ref o] (fun r M' => M' = M0 ∧ r = nI c) := by
  refine mm_enter (by decide) (Nat.le_of_ble_eq_true rfl) (fun pG eV s m args below meth cdx ls Q E hml hr hlk hnm hZ hl eQ => ?_)
  have hx := E.1
  have hb := E.2.1
  have hl : lv_has ls 1 [(0, .ref o)] := hl
  have ho := h0.1
  refine lv_aload_n hx hb d_AlarmL_size_0 rfl (lv_at hl 0 rfl) ?_
  refine mm_get E hZ cl_AlarmL fl_AlarmL_12 (by decide) ho rfl d_AlarmL_size_1 ?_
  obtain ⟨vsl, hvl⟩ := h0.2.1.obj
  refine mm_calli (mm_runV (As := []) (rest := []) E hZ hml hl.1 lk_AlarmL_18 me_AL_size in_AL_size (c_AL_size l g h0.2.1) hvl cl_AL.1 ⟨Nat.le_of_ble_eq_true rfl, Nat.le_of_ble_eq_true rfl⟩ rfl (Nat.le_of_ble_eq_true rfl) d_AlarmL_size_4 ⟨Nat.le_of_ble_eq_true rfl, Nat.le_of_ble_eq_true rfl⟩) hZ (fun r1 M1 H locs hp hZ => ?_)
  rw [hp.1] at hZ
  replace hp := hp.2
  exact mm_iret (v := r1) E hr hlk eQ hZ d_AlarmL_size_7 ⟨_, rfl, rfl, hp⟩
set_option maxHeartbeats 4000000 in
set_option maxRecDepth 100000 in
theorem c_AlarmL_partOf (l : Launch) (g : mm_G) {M0 : mm_M} {o lt c n : Nat} {ad : Nat → Nat} {F : Nat → Nat → Int32} (h0 : Tl g M0 o lt c n ad F) (i u : Int32) : Ci l g y_AlarmL_partOf b_AlarmL_partOf 4 .int (rk 3 64 0 0) M0 [.ref o, .int i, .int u] (fun r M' => M' = M0 ∧ (((∀ j v, j < c → v < 5 → ¬ (i = nI j ∧ u = nI v)) ∧ r = (-1)) ∨ ∃ j v, j < c ∧ v < 5 ∧ i = nI j ∧ u = nI v ∧ r = F j v)) := by
  refine mm_enter (by decide) (Nat.le_of_ble_eq_true rfl) (fun pG eV s m args below meth cdx ls Q E hml hr hlk hnm hZ hl eQ => ?_)
  have hx := E.1
  have hb := E.2.1
  have hl : lv_has ls 4 [(0, .ref o), (1, .int i), (2, .int u)] := hl
  have ho := h0.1
  obtain ⟨vsl, hvl⟩ := h0.2.1.obj
  have hc20 := h0.2.1.lt
  refine lv_iload_n hx hb d_AlarmL_partOf_0 rfl (lv_at hl 1 rfl) ?_
  refine lv_if_lt (tgt := 15) hx hb d_AlarmL_partOf_1 (by decide) (fun c1 => ?_) (fun c1 => ?_)
  · refine lv_iconst (v := (-1)) hx hb d_AlarmL_partOf_15 (by decide) ?_
    exact mm_iret (v := (-1)) E hr hlk eQ hZ d_AlarmL_partOf_16 ⟨_, rfl, rfl, Or.inl ⟨fun j v hj hv hh => i_neg_of c1 j (by omega) hh.1, rfl⟩⟩
  · obtain ⟨j, hj31, rfl⟩ := i_nat c1
    refine lv_iload_n hx hb d_AlarmL_partOf_4 rfl (lv_at hl 1 rfl) ?_
    refine lv_aload_n hx hb d_AlarmL_partOf_5 rfl (lv_at hl 0 rfl) ?_
    refine mm_get E hZ cl_AlarmL fl_AlarmL_12 (by decide) ho rfl d_AlarmL_partOf_6 ?_
    refine mm_calli (mm_runV (As := []) (rest := [.int (nI j)]) E hZ hml hl.1 lk_AlarmL_18 me_AL_size in_AL_size (c_AL_size l g h0.2.1) hvl cl_AL.1 ⟨Nat.le_of_ble_eq_true rfl, Nat.le_of_ble_eq_true rfl⟩ rfl (Nat.le_of_ble_eq_true rfl) d_AlarmL_partOf_9 ⟨Nat.le_of_ble_eq_true rfl, Nat.le_of_ble_eq_true rfl⟩) hZ (fun r1 M1 H locs hp hZ => ?_)
    rw [hp.1] at hZ
    replace hp := hp.2
    subst hp
    refine lv_icmp_lt (tgt := 17) hx hb d_AlarmL_partOf_12 (by decide) (fun c12 => ?_) (fun c12 => ?_)
    · have hjc : j < c := (nI_ltI (by omega) (by omega)).mp c12
      refine lv_aload_n hx hb d_AlarmL_partOf_17 rfl (lv_at hl 0 rfl) ?_
      refine mm_get E hZ cl_AlarmL fl_AlarmL_12 (by decide) ho rfl d_AlarmL_partOf_18 ?_
      refine lv_iload_n hx hb d_AlarmL_partOf_21 rfl (lv_at hl 1 rfl) ?_
      refine mm_callq (mm_runV (As := [.int (nI j)]) (rest := []) E hZ hml hl.1 lk_AlarmL_44 me_AL_get in_AL_get (c_AL_get l g h0.2.1 hjc) hvl cl_AL.1 ⟨Nat.le_of_ble_eq_true rfl, Nat.le_of_ble_eq_true rfl⟩ rfl (Nat.le_of_ble_eq_true rfl) d_AlarmL_partOf_22 ⟨Nat.le_of_ble_eq_true rfl, Nat.le_of_ble_eq_true rfl⟩) hZ (fun rq M1 H locs hp hZ => ?_)
      rw [hp.1] at hZ
      replace hp := hp.2
      subst hp
      have hej := h0.2.2 j hjc
      refine mm_cast E hZ hej cl_Alarm.1 w_410 d_AlarmL_partOf_25 ?_
      refine lv_astore_n (lv' := [(3, .ref (ad j)), (0, .ref o), (1, .int (nI j)), (2, .int u)]) hx hb d_AlarmL_partOf_28 rfl hl (by decide) rfl (fun ls hl => ?_)
      refine lv_iload_n hx hb d_AlarmL_partOf_29 rfl (lv_at hl 3 rfl) ?_
      by_cases hu0 : u < 0
      · refine lv_tableOut (tgt := 89) hx hb d_AlarmL_partOf_30 (Or.inl (by have := (Int32.lt_iff_toInt_lt).mp hu0; simpa using this)) (by decide) ?_
        refine lv_iconst (v := (-1)) hx hb d_AlarmL_partOf_89 (by decide) ?_
        exact mm_iret (v := (-1)) E hr hlk eQ hZ d_AlarmL_partOf_90 ⟨_, rfl, rfl, Or.inl ⟨fun j2 v hj2 hv hh => i_neg_of hu0 v (by omega) hh.2, rfl⟩⟩
      · obtain ⟨v, hv31, rfl⟩ := i_nat hu0
        rcases (show v = 0 ∨ v = 1 ∨ v = 2 ∨ v = 3 ∨ v = 4 ∨ 4 < v by omega) with rfl | rfl | rfl | rfl | rfl | hv4
        · refine lv_tableIn (off := 34) (tgt := 64) hx hb d_AlarmL_partOf_30 (by decide) (by decide) (by decide) (by decide) ?_
          refine lv_aload_n hx hb d_AlarmL_partOf_64 rfl (lv_at hl 0 rfl) ?_
          refine mm_get E hZ cl_Alarm fl_AlarmL_48 (by decide) hej rfl d_AlarmL_partOf_65 ?_
          exact mm_iret (v := F j 0) E hr hlk eQ hZ d_AlarmL_partOf_68 ⟨_, rfl, rfl, Or.inr ⟨j, 0, hjc, by decide, rfl, rfl, rfl⟩⟩
        · refine lv_tableIn (off := 39) (tgt := 69) hx hb d_AlarmL_partOf_30 (by decide) (by decide) (by decide) (by decide) ?_
          refine lv_aload_n hx hb d_AlarmL_partOf_69 rfl (lv_at hl 0 rfl) ?_
          refine mm_get E hZ cl_Alarm fl_AlarmL_51 (by decide) hej rfl d_AlarmL_partOf_70 ?_
          exact mm_iret (v := F j 1) E hr hlk eQ hZ d_AlarmL_partOf_73 ⟨_, rfl, rfl, Or.inr ⟨j, 1, hjc, by decide, rfl, rfl, rfl⟩⟩
        · refine lv_tableIn (off := 44) (tgt := 74) hx hb d_AlarmL_partOf_30 (by decide) (by decide) (by decide) (by decide) ?_
          refine lv_aload_n hx hb d_AlarmL_partOf_74 rfl (lv_at hl 0 rfl) ?_
          refine mm_get E hZ cl_Alarm fl_AlarmL_54 (by decide) hej rfl d_AlarmL_partOf_75 ?_
          exact mm_iret (v := F j 2) E hr hlk eQ hZ d_AlarmL_partOf_78 ⟨_, rfl, rfl, Or.inr ⟨j, 2, hjc, by decide, rfl, rfl, rfl⟩⟩
        · refine lv_tableIn (off := 49) (tgt := 79) hx hb d_AlarmL_partOf_30 (by decide) (by decide) (by decide) (by decide) ?_
          refine lv_aload_n hx hb d_AlarmL_partOf_79 rfl (lv_at hl 0 rfl) ?_
          refine mm_get E hZ cl_Alarm fl_AlarmL_55 (by decide) hej rfl d_AlarmL_partOf_80 ?_
          exact mm_iret (v := F j 3) E hr hlk eQ hZ d_AlarmL_partOf_83 ⟨_, rfl, rfl, Or.inr ⟨j, 3, hjc, by decide, rfl, rfl, rfl⟩⟩
        · refine lv_tableIn (off := 54) (tgt := 84) hx hb d_AlarmL_partOf_30 (by decide) (by decide) (by decide) (by decide) ?_
          refine lv_aload_n hx hb d_AlarmL_partOf_84 rfl (lv_at hl 0 rfl) ?_
          refine mm_get E hZ cl_Alarm fl_AlarmL_56 (by decide) hej rfl d_AlarmL_partOf_85 ?_
          exact mm_iret (v := F j 4) E hr hlk eQ hZ d_AlarmL_partOf_88 ⟨_, rfl, rfl, Or.inr ⟨j, 4, hjc, by decide, rfl, rfl, rfl⟩⟩
        · refine lv_tableOut (tgt := 89) hx hb d_AlarmL_partOf_30 (Or.inr (by rw [nI_toInt hv31]; omega)) (by decide) ?_
          refine lv_iconst (v := (-1)) hx hb d_AlarmL_partOf_89 (by decide) ?_
          exact mm_iret (v := (-1)) E hr hlk eQ hZ d_AlarmL_partOf_90 ⟨_, rfl, rfl, Or.inl ⟨fun j2 v2 hj2 hv2 hh => by have := (nI_eq hv31 (by omega)).mp hh.2; omega, rfl⟩⟩
    · refine lv_iconst (v := (-1)) hx hb d_AlarmL_partOf_15 (by decide) ?_
      exact mm_iret (v := (-1)) E hr hlk eQ hZ d_AlarmL_partOf_16 ⟨_, rfl, rfl, Or.inl ⟨fun j2 v hj2 hv hh => by have := (nI_eq hj31 (by omega)).mp hh.1; exact c12 ((nI_ltI (by omega) (by omega)).mpr (by omega)), rfl⟩⟩
set_option maxHeartbeats 4000000 in
set_option maxRecDepth 100000 in
theorem c_RowL_failedRow (l : Launch) (g : mm_G) {M0 : mm_M} {o la lf c n cf nf : Nat} {ad af : Nat → Nat} (h0 : Rl g M0 o la lf c n cf nf ad af) (hrow : ∀ j, j < cf → ∃ nu st pl sv wi fl hf, M0 (af j) = some (rowc nu st pl sv wi fl hf)) (i : Int32) : Ci l g y_RowL_failedRow b_RowL_failedRow 2 .int (rk 3 64 0 0) M0 [.ref o, .int i] (fun r M' => M' = M0 ∧ (((∀ j, j < cf → i ≠ nI j) ∧ r = 0) ∨ ∃ j nu st pl sv wi fl hf, j < cf ∧ i = nI j ∧ M0 (af j) = some (rowc nu st pl sv wi fl hf) ∧ r = nu)) := by
  refine mm_enter (by decide) (Nat.le_of_ble_eq_true rfl) (fun pG eV s m args below meth cdx ls Q E hml hr hlk hnm hZ hl eQ => ?_)
  have hx := E.1
  have hb := E.2.1
  have hl : lv_has ls 2 [(0, .ref o), (1, .int i)] := hl
  have ho := h0.1
  obtain ⟨vsl, hvl⟩ := h0.2.2.obj
  have hc20 := h0.2.2.lt
  refine lv_iload_n hx hb d_RowL_failedRow_0 rfl (lv_at hl 1 rfl) ?_
  refine lv_if_lt (tgt := 15) hx hb d_RowL_failedRow_1 (by decide) (fun c1 => ?_) (fun c1 => ?_)
  · refine lv_iconst (v := 0) hx hb d_RowL_failedRow_15 (by decide) ?_
    exact mm_iret (v := 0) E hr hlk eQ hZ d_RowL_failedRow_16 ⟨_, rfl, rfl, Or.inl ⟨fun j hj hh => i_neg_of c1 j (by omega) hh, rfl⟩⟩
  · obtain ⟨j, hj31, rfl⟩ := i_nat c1
    refine lv_iload_n hx hb d_RowL_failedRow_4 rfl (lv_at hl 1 rfl) ?_
    refine lv_aload_n hx hb d_RowL_failedRow_5 rfl (lv_at hl 0 rfl) ?_
    refine mm_get E hZ cl_RowL fl_RowL_18 (by decide) ho rfl d_RowL_failedRow_6 ?_
    refine mm_calli (mm_runV (As := []) (rest := [.int (nI j)]) E hZ hml hl.1 lk_RowL_21 me_AL_size in_AL_size (c_AL_size l g h0.2.2) hvl cl_AL.1 ⟨Nat.le_of_ble_eq_true rfl, Nat.le_of_ble_eq_true rfl⟩ rfl (Nat.le_of_ble_eq_true rfl) d_RowL_failedRow_9 ⟨Nat.le_of_ble_eq_true rfl, Nat.le_of_ble_eq_true rfl⟩) hZ (fun r1 M1 H locs hp hZ => ?_)
    rw [hp.1] at hZ
    replace hp := hp.2
    subst hp
    refine lv_icmp_lt (tgt := 17) hx hb d_RowL_failedRow_12 (by decide) (fun c12 => ?_) (fun c12 => ?_)
    · have hjc : j < cf := (nI_ltI (by omega) (by omega)).mp c12
      obtain ⟨nu, st, pl, sv, wi, fl, hf, hej⟩ := hrow j hjc
      refine lv_aload_n hx hb d_RowL_failedRow_17 rfl (lv_at hl 0 rfl) ?_
      refine mm_get E hZ cl_RowL fl_RowL_18 (by decide) ho rfl d_RowL_failedRow_18 ?_
      refine lv_iload_n hx hb d_RowL_failedRow_21 rfl (lv_at hl 1 rfl) ?_
      refine mm_callq (mm_runV (As := [.int (nI j)]) (rest := []) E hZ hml hl.1 lk_RowL_34 me_AL_get in_AL_get (c_AL_get l g h0.2.2 hjc) hvl cl_AL.1 ⟨Nat.le_of_ble_eq_true rfl, Nat.le_of_ble_eq_true rfl⟩ rfl (Nat.le_of_ble_eq_true rfl) d_RowL_failedRow_22 ⟨Nat.le_of_ble_eq_true rfl, Nat.le_of_ble_eq_true rfl⟩) hZ (fun rq M1 H locs hp hZ => ?_)
      rw [hp.1] at hZ
      replace hp := hp.2
      subst hp
      refine mm_cast E hZ hej cl_Row.1 w_208 d_RowL_failedRow_25 ?_
      refine mm_get E hZ cl_Row fl_RowL_46 (by decide) hej rfl d_RowL_failedRow_28 ?_
      exact mm_iret (v := nu) E hr hlk eQ hZ d_RowL_failedRow_31 ⟨_, rfl, rfl, Or.inr ⟨j, nu, st, pl, sv, wi, fl, hf, hjc, rfl, hej, rfl⟩⟩
    · refine lv_iconst (v := 0) hx hb d_RowL_failedRow_15 (by decide) ?_
      exact mm_iret (v := 0) E hr hlk eQ hZ d_RowL_failedRow_16 ⟨_, rfl, rfl, Or.inl ⟨fun j2 hj2 hh => by have := (nI_eq hj31 (by omega)).mp hh; exact c12 ((nI_ltI (by omega) (by omega)).mpr (by omega)), rfl⟩⟩
set_option maxHeartbeats 4000000 in
set_option maxRecDepth 100000 in
theorem c_RowL_addRow (l : Launch) (g : mm_G) {M0 : mm_M} {o la lf c n cf nf : Nat} {ad af : Nat → Nat} (h0 : Rl g M0 o la lf c n cf nf ad af) (hn19 : n < 2 ^ 19) (hrow : ∀ i, i < c → ∃ nu st pl sv wi fl hf, M0 (ad i) = some (rowc nu st pl sv wi fl hf)) (st pl sv : Int32) (wi : Int64) {fl : Int32} (hfl : bo fl) : Ci l g y_RowL_addRow b_RowL_addRow 8 .int (rk 7 171 (1 + alC c n) (7 + alS c n)) M0 [.ref o, .int st, .int pl, .int sv, .long wi, .int fl] (fun r M' => (40 ≤ c ∧ r = (-104) ∧ M' = M0) ∨ (c < 40 ∧ r = nI (c + 1) ∧ ∃ q, M0 q = none ∧ M' q = some (rowc (nI (c + 1)) st pl sv wi fl 0) ∧ Al g M' 8 la (c + 1) (alM c n) (va_up ad c q) ∧ ∀ u, u ≠ 8 → mm_same u M0 M')) := by
  refine mm_enter (by decide) (Nat.le_of_ble_eq_true rfl) (fun pG eV s m args below meth cdx ls Q E hml hr hlk hnm hZ hl eQ => ?_)
  have hx := E.1
  have hb := E.2.1
  have hl : lv_has ls 8 [(0, .ref o), (1, .int st), (2, .int pl), (3, .int sv), (4, .long wi), (6, .int fl)] := hl
  have ho := h0.1
  obtain ⟨vsl, hvl⟩ := h0.2.1.obj
  have hc20 := h0.2.1.lt
  refine lv_aload_n hx hb d_RowL_addRow_0 rfl (lv_at hl 0 rfl) ?_
  refine mm_get E hZ cl_RowL fl_RowL_12 (by decide) ho rfl d_RowL_addRow_1 ?_
  refine mm_calli (mm_runV (As := []) (rest := []) E hZ hml hl.1 lk_RowL_21 me_AL_size in_AL_size (c_AL_size l g h0.2.1) hvl cl_AL.1 ⟨Nat.le_of_ble_eq_true rfl, Nat.le_of_ble_eq_true rfl⟩ rfl (Nat.le_of_ble_eq_true rfl) d_RowL_addRow_4 ⟨by show 0 + 0 ≤ 1 + alC c n; omega, by show 0 + 0 ≤ 7 + alS c n; omega⟩) hZ (fun r1 M1 H locs hp hZ => ?_)
  rw [hp.1] at hZ
  replace hp := hp.2
  subst hp
  refine lv_bipush (v := 40) hx hb d_RowL_addRow_7 (by decide) ?_
  refine lv_icmp_lt (tgt := 15) hx hb d_RowL_addRow_9 (by decide) (fun c9 => ?_) (fun c9 => ?_)
  · have hc40 : c < 40 := (nI_ltI (b := 40) (by omega) (by omega)).mp c9
    refine lv_aload_n hx hb d_RowL_addRow_15 rfl (lv_at hl 0 rfl) ?_
    refine mm_get E hZ cl_RowL fl_RowL_12 (by decide) ho rfl d_RowL_addRow_16 ?_
    refine mm_calli (mm_runV (As := []) (rest := []) E hZ hml hl.1 lk_RowL_21 me_AL_size in_AL_size (c_AL_size l g h0.2.1) hvl cl_AL.1 ⟨Nat.le_of_ble_eq_true rfl, Nat.le_of_ble_eq_true rfl⟩ rfl (Nat.le_of_ble_eq_true rfl) d_RowL_addRow_19 ⟨by show 0 + 0 + 0 ≤ 1 + alC c n; omega, by show 0 + 0 + 0 ≤ 7 + alS c n; omega⟩) hZ (fun r2 M1 H locs hp hZ => ?_)
    rw [hp.1] at hZ
    replace hp := hp.2
    subst hp
    refine lv_iconst (v := 1) hx hb d_RowL_addRow_22 (by decide) ?_
    refine lv_iadd hx hb d_RowL_addRow_23 ?_
    refine lv_istore (lv' := [(7, .int ((nI c) + 1)), (0, .ref o), (1, .int st), (2, .int pl), (3, .int sv), (4, .long wi), (6, .int fl)]) hx hb d_RowL_addRow_24 hl (by decide) rfl (fun ls hl => ?_)
    refine lv_aload_n hx hb d_RowL_addRow_26 rfl (lv_at hl 1 rfl) ?_
    refine mm_get E hZ cl_RowL fl_RowL_12 (by decide) ho rfl d_RowL_addRow_27 ?_
    have hn0 : nI c + 1 = nI (c + 1) := nI_1 c
    refine mm_new 10 E hZ cl_Row w_208 ni_Row.1 ni_Row.2 fs_Row (by show 0 + 0 + 0 + 1 ≤ 1 + alC c n; omega) (by show 0 + 0 + 0 + 7 ≤ 7 + alS c n; omega) d_RowL_addRow_30 (fun q H hBq hNq hZ => ?_)
    obtain ⟨M3, eM3⟩ : ∃ zz : mm_M, zz = mm_up M0 q (ob 10 7 [.int 0, .int 0, .int 0, .int 0, .long 0, .int 0, .int 0]) := ⟨_, rfl⟩
    have hZ : mm_S g s M3 H locs := by rw [eM3]; exact hZ
    have h4 := (congrFun eM3 o).trans ((mm_ne _ _ (mm_apartN ho hNq)).trans ho)
    have h5 := (congrFun eM3 q).trans (mm_self _ _ _)
    refine lv_dup hx hb d_RowL_addRow_33 rfl ?_
    refine lv_iload hx hb d_RowL_addRow_34 (lv_at hl 0 rfl) ?_
    refine lv_iload_n hx hb d_RowL_addRow_36 rfl (lv_at hl 2 rfl) ?_
    refine lv_iload_n hx hb d_RowL_addRow_37 rfl (lv_at hl 3 rfl) ?_
    refine lv_iload_n hx hb d_RowL_addRow_38 rfl (lv_at hl 4 rfl) ?_
    refine lv_lload hx hb d_RowL_addRow_39 (lv_at hl 5 rfl) ?_
    refine lv_iload hx hb d_RowL_addRow_41 (lv_at hl 6 rfl) ?_
    refine mm_callv (mm_runI (As := [.int ((nI c) + 1), .int st, .int pl, .int sv, .long wi, .int fl]) (rest := [.ref q, .ref la]) E hZ hml hl.1 lk_RowL_27 me_Row_init in_Row_init (c_Row_init l g h5 (nI c + 1) st pl sv wi hfl) ⟨Nat.le_of_ble_eq_true rfl, Nat.le_of_ble_eq_true rfl⟩ rfl (Nat.le_of_ble_eq_true rfl) d_RowL_addRow_43 ⟨by show 0 + 0 + 0 + 1 + 0 ≤ 1 + alC c n; omega, by show 0 + 0 + 0 + 7 + 0 ≤ 7 + alS c n; omega⟩) hZ (fun Mr H locs hp hZ => ?_)
    have hs1 : ∀ u, mm_same u M0 Mr := fun u => by
      rw [hp, eM3, mm_uu]
      exact mm_same.new hNq _
    have hqr := (congrFun hp q).trans (mm_self _ _ _)
    have hal := h0.2.1.kept (hs1 8)
    obtain ⟨vsr, hvr⟩ := hal.obj
    have hel : elOk Mr c ad := rows_el (fun i hi => by
      obtain ⟨a1, a2, a3, a4, a5, a6, a7, h⟩ := hrow i hi
      exact ⟨a1, a2, a3, a4, a5, a6, a7, hs1 10 _ _ h⟩)
    refine mm_calli (mm_runV (As := [.ref q]) (rest := []) E hZ hml hl.1 lk_RowL_30 me_AL_add1 in_AL_add1 (c_AL_add1 l g (by decide) hal hn19 hel hqr rfl row_cast (by decide)) hvr cl_AL.1 ⟨Nat.le_of_ble_eq_true rfl, Nat.le_of_ble_eq_true rfl⟩ rfl (Nat.le_of_ble_eq_true rfl) d_RowL_addRow_46 ⟨by show 0 + 0 + 0 + 1 + 0 + alC c n ≤ 1 + alC c n; omega, by show 0 + 0 + 0 + 7 + 0 + alS c n ≤ 7 + alS c n; omega⟩) hZ (fun r7 Mx H locs hp hZ => ?_)
    obtain ⟨hr1, hal2, hs2⟩ := hp
    refine lv_pop hx hb d_RowL_addRow_49 rfl ?_
    refine lv_iload hx hb d_RowL_addRow_50 (lv_at hl 0 rfl) ?_
    refine W.widen (k := 1 + alC c n) (n := 7 + alS c n) (by show 0 + 0 + 0 + 1 + 0 + alC c n ≤ 1 + alC c n; omega) (by show 0 + 0 + 0 + 7 + 0 + alS c n ≤ 7 + alS c n; omega) ?_
    exact mm_iret (v := (nI c) + 1) E hr hlk eQ hZ d_RowL_addRow_52 ⟨_, rfl, Or.inr ⟨hc40, hn0, q, hNq, by rw [← hn0]; exact hs2 10 (by decide) _ _ hqr, hal2, fun u hu => (hs1 u).tr (hs2 u hu)⟩⟩
  · refine lv_bipush (v := (-104)) hx hb d_RowL_addRow_12 (by decide) ?_
    refine W.widen (k := 1 + alC c n) (n := 7 + alS c n) (by show 0 + 0 ≤ 1 + alC c n; omega) (by show 0 + 0 ≤ 7 + alS c n; omega) ?_
    exact mm_iret (v := (-104)) E hr hlk eQ hZ d_RowL_addRow_14 ⟨_, rfl, Or.inl ⟨Nat.not_lt.mp (fun z => c9 ((nI_ltI (b := 40) (by omega) (by omega)).mpr z)), rfl, rfl⟩⟩
set_option maxHeartbeats 4000000 in
set_option maxRecDepth 100000 in
theorem c_RowL_firstFor0 (l : Launch) (g : mm_G) {M0 : mm_M} {o la lf n cf nf : Nat} {ad af : Nat → Nat} (h0 : Rl g M0 o la lf 0 n cf nf ad af) (st pl sv : Int32) : Cq l g y_RowL_firstFor b_RowL_firstFor 6 (.object "ExpectRows$Row") (rk 3 64 0 0) M0 [.ref o, .int st, .int pl, .int sv] (fun r M' => M' = M0 ∧ r = none) := by
  refine mm_enter (by decide) (Nat.le_of_ble_eq_true rfl) (fun pG eV s m args below meth cdx ls Q E hml hr hlk hnm hZ hl eQ => ?_)
  have hx := E.1
  have hb := E.2.1
  have hl : lv_has ls 6 [(0, .ref o), (1, .int st), (2, .int pl), (3, .int sv)] := hl
  have ho := h0.1
  obtain ⟨vsl, hvl⟩ := h0.2.1.obj
  refine lv_iconst (v := 0) hx hb d_RowL_firstFor_0 (by decide) ?_
  refine lv_istore (lv' := [(4, .int 0), (0, .ref o), (1, .int st), (2, .int pl), (3, .int sv)]) hx hb d_RowL_firstFor_1 hl (by decide) rfl (fun ls hl => ?_)
  refine lv_iload hx hb d_RowL_firstFor_3 (lv_at hl 0 rfl) ?_
  refine lv_aload_n hx hb d_RowL_firstFor_5 rfl (lv_at hl 1 rfl) ?_
  refine mm_get E hZ cl_RowL fl_RowL_12 (by decide) ho rfl d_RowL_firstFor_6 ?_
  refine mm_calli (mm_runV (As := []) (rest := [.int 0]) E hZ hml hl.1 lk_RowL_21 me_AL_size in_AL_size (c_AL_size l g h0.2.1) hvl cl_AL.1 ⟨Nat.le_of_ble_eq_true rfl, Nat.le_of_ble_eq_true rfl⟩ rfl (Nat.le_of_ble_eq_true rfl) d_RowL_firstFor_9 ⟨Nat.le_of_ble_eq_true rfl, Nat.le_of_ble_eq_true rfl⟩) hZ (fun r1 M1 H locs hp hZ => ?_)
  rw [hp.1] at hZ
  replace hp := hp.2
  subst hp
  refine lv_icmp_ge (tgt := 49) hx hb d_RowL_firstFor_12 (by decide) (fun c12 => ?_) (fun c12 => ?_)
  · refine lv_null hx hb d_RowL_firstFor_49 ?_
    exact mm_aret (v := none) E hr (Or.inl ⟨_, rfl⟩) hlk eQ hZ d_RowL_firstFor_50 ⟨_, rfl, rfl, rfl⟩
  · exact absurd (by decide) c12
