/-! THE CLASS: ExpectRows itself -/
abbrev xob (rl yl tl cn dl ia : Nat) (ck : Int64) : mm_E := ob 1 0 [.ref rl, .ref yl, .ref tl, .ref cn, .ref dl, .ref ia, .long ck]
theorem Rl.kept {g : mm_G} {M M' : mm_M} {o la lf c n cf nf : Nat} {ad af : Nat → Nat} (h : Rl g M o la lf c n cf nf ad af) (hs : ∀ t, t = 2 ∨ t = 8 ∨ t = 9 → mm_same t M M') : Rl g M' o la lf c n cf nf ad af := ⟨hs 2 (Or.inl rfl) _ _ h.1, h.2.1.kept (hs 8 (Or.inr (Or.inl rfl))), h.2.2.kept (hs 9 (Or.inr (Or.inr rfl)))⟩
theorem Hl.kept {g : mm_G} {M M' : mm_M} {h da c : Nat} {f : Nat → Int64} (h0 : Hl g M h da c f) (hs : ∀ t, t = 3 ∨ t = 15 → mm_same t M M') : Hl g M' h da c f := ⟨hs 3 (Or.inl rfl) _ _ h0.1, hs 15 (Or.inr rfl) _ _ h0.2⟩
theorem Tl.kept {g : mm_G} {M M' : mm_M} {o lt c n : Nat} {ad : Nat → Nat} {F : Nat → Nat → Int32} (h : Tl g M o lt c n ad F) (hs : ∀ t, t = 4 ∨ t = 11 ∨ t = 12 → mm_same t M M') : Tl g M' o lt c n ad F := ⟨hs 4 (Or.inl rfl) _ _ h.1, h.2.1.kept (hs 11 (Or.inr (Or.inl rfl))), fun i hi => hs 12 (Or.inr (Or.inr rfl)) _ _ (h.2.2 i hi)⟩
theorem Cn.kept {g : mm_G} {M M' : mm_M} {o bA lA : Nat} {fb fl : Nat → Int32} (h : Cn g M o bA lA fb fl) (hs : ∀ t, t = 5 ∨ t = 13 ∨ t = 14 → mm_same t M M') : Cn g M' o bA lA fb fl := ⟨hs 5 (Or.inl rfl) _ _ h.1, hs 13 (Or.inr (Or.inl rfl)) _ _ h.2.1, hs 14 (Or.inr (Or.inr rfl)) _ _ h.2.2⟩
theorem Dl.kept {g : mm_G} {M M' : mm_M} {o dA2 sA c : Nat} {fd fs : Nat → Int32} (h : Dl g M o dA2 sA c fd fs) (hs : ∀ t, t = 6 ∨ t = 16 ∨ t = 17 → mm_same t M M') : Dl g M' o dA2 sA c fd fs := ⟨hs 6 (Or.inl rfl) _ _ h.1, hs 16 (Or.inr (Or.inl rfl)) _ _ h.2.1, hs 17 (Or.inr (Or.inr rfl)) _ _ h.2.2⟩
/-- an item's state, and the items -/
abbrev itS : Type := Int32 × Int64 × Int64 × Int32 × Int32 × Int64 × Int32 × Int32
abbrev itE (v : itS) : mm_E := itc v.1 v.2.1 v.2.2.1 v.2.2.2.1 v.2.2.2.2.1 v.2.2.2.2.2.1 v.2.2.2.2.2.2.1 v.2.2.2.2.2.2.2
def it0 : itS := (-1, 0, 0, 0, 0, 0, 0, 0)
def It (g : mm_G) (M : mm_M) (ia : Nat) (fa : Nat → Nat) (v : Nat → itS) : Prop := (∃ f, M ia = some (aq 18 (g.2.2 3) 200 f) ∧ ∀ i, i < 200 → f i = some (fa i)) ∧ (∀ i, i < 200 → M (fa i) = some (itE (v i))) ∧ ∀ i j, i < 200 → j < 200 → fa i = fa j → i = j
theorem It.kept {g : mm_G} {M M' : mm_M} {ia : Nat} {fa : Nat → Nat} {v : Nat → itS} (h : It g M ia fa v) (hs : ∀ t, t = 7 ∨ t = 18 → mm_same t M M') : It g M' ia fa v := by
  obtain ⟨⟨f, h1, h2⟩, h3, h4⟩ := h
  exact ⟨⟨f, hs 18 (Or.inr rfl) _ _ h1, h2⟩, fun i hi => hs 7 (Or.inl rfl) _ _ (h3 i hi), h4⟩
theorem item_cls : classes[5]? = some (R_Item, F_Item, 8) := cl_Item.1
theorem pl_out {x : Int32} (h : ¬ (0 ≤ x ∧ x < 50)) (j : Nat) (hj : j < 50) : x ≠ nI j := fun e => h (e ▸ pl_in hj)
theorem in_pl {x : Int32} (h : 0 ≤ x ∧ x < 50) : ∃ j : Nat, j < 50 ∧ x = nI j := by
  obtain ⟨j, hj, rfl⟩ := nI_of (Int32.not_lt.mpr h.1)
  exact ⟨j, (nI_ltI (b := 50) hj (by decide)).mp h.2, rfl⟩
theorem it_in {p : Nat} (h : p < 200) : 0 ≤ nI p ∧ nI p < 200 := ⟨nI_pos' (by omega), nI_lt h (by decide)⟩
theorem in_it {x : Int32} (h : 0 ≤ x ∧ x < 200) : ∃ j : Nat, j < 200 ∧ x = nI j := by
  obtain ⟨j, hj, rfl⟩ := nI_of (Int32.not_lt.mpr h.1)
  exact ⟨j, (nI_ltI (b := 200) hj (by decide)).mp h.2, rfl⟩
theorem sv_in {p : Nat} (h : p < 5) : 0 ≤ nI p ∧ nI p < 5 := ⟨nI_pos' (by omega), nI_lt h (by decide)⟩
theorem in_sv {x : Int32} (h : 0 ≤ x ∧ x < 5) : ∃ j : Nat, j < 5 ∧ x = nI j := by
  obtain ⟨j, hj, rfl⟩ := nI_of (Int32.not_lt.mpr h.1)
  exact ⟨j, (nI_ltI (b := 5) hj (by decide)).mp h.2, rfl⟩
set_option maxHeartbeats 4000000 in
set_option maxRecDepth 100000 in
theorem c_X_init (l : Launch) (g : mm_G) {M0 : mm_M} {x : Nat} (h0 : M0 x = some (ob 1 0 [.null, .null, .null, .null, .null, .null, .long 0])) (ad af at0 : Nat → Nat) (F : Nat → Nat → Int32) : Cv l g y_X_init b_X_init 2 (rk 5 100 214 3043) M0 [.ref x] (fun M' => ∃ rl la lf yl da tl lt cn bA lA dl dA2 sA ia fa, M' x = some (xob rl yl tl cn dl ia 0) ∧ Rl g M' rl la lf 0 0 0 0 ad af ∧ Hl g M' yl da 0 (fun _ => 0) ∧ Tl g M' tl lt 0 0 at0 F ∧ Cn g M' cn bA lA (fun _ => 0) (fun _ => 0) ∧ Dl g M' dl dA2 sA 0 (fun _ => 0) (fun _ => 0) ∧ It g M' ia fa (fun _ => it0) ∧ ∀ u, 19 ≤ u → mm_same u M0 M') := by
  refine mm_enter (by decide) (Nat.le_of_ble_eq_true rfl) (fun pG eV s m args below meth cdx ls Q E hml hr hlk hnm hZ hl eQ => ?_)
  have hx := E.1
  have hb := E.2.1
  have hl : lv_has ls 2 [(0, .ref x)] := hl
  have k0 : ∀ u, 19 ≤ u → mm_same u M0 M0 := fun u _ => mm_same.rf
  refine lv_aload_n hx hb d_X_init_0 rfl (lv_at hl 0 rfl) ?_
  refine mm_objI E hml hl.1 w_29 w_30 w_31 (Nat.le_of_ble_eq_true rfl) (Nat.le_of_ble_eq_true rfl) d_X_init_1 ?_
  refine lv_aload_n hx hb d_X_init_4 rfl (lv_at hl 0 rfl) ?_
  refine mm_new 2 E hZ cl_RowL w_32 ni_RowL.1 ni_RowL.2 fs_RowL (Nat.le_of_ble_eq_true rfl) (Nat.le_of_ble_eq_true rfl) d_X_init_5 (fun rl H hBrl hNrl hZ => ?_)
  obtain ⟨M1, eM1⟩ : ∃ zz : mm_M, zz = mm_up M0 rl (ob 2 8 [.null, .null]) := ⟨_, rfl⟩
  have hZ : mm_S g s M1 H [] := by rw [eM1]; exact hZ
  have h2 := (congrFun eM1 x).trans ((mm_ne _ _ (mm_apartN h0 hNrl)).trans h0)
  have h3 := (congrFun eM1 rl).trans (mm_self _ _ _)
  have kk_M1 : ∀ u, 19 ≤ u → mm_same u M0 M1 := fun u hu => (k0 u hu).tr (by rw [eM1]; exact mm_same.new hNrl _)
  refine lv_dup hx hb d_X_init_8 rfl ?_
  refine mm_callv (mm_runI (As := []) (rest := [.ref rl, .ref x]) E hZ hml hl.1 lk_X_9 me_RowL_init in_RowL_init (c_RowL_init l g h3 ad af) ⟨Nat.le_of_ble_eq_true rfl, Nat.le_of_ble_eq_true rfl⟩ rfl (Nat.le_of_ble_eq_true rfl) d_X_init_9 ⟨Nat.le_of_ble_eq_true rfl, Nat.le_of_ble_eq_true rfl⟩) hZ (fun Ma H locs hp hZ => ?_)
  obtain ⟨la, lf, hRl, hsrl⟩ := hp
  have kk_Ma : ∀ u, 19 ≤ u → mm_same u M0 Ma := fun u hu => (kk_M1 u hu).tr (hsrl u (by omega) (by omega) (by omega))
  have hxMa := hsrl 1 (by decide) (by decide) (by decide) _ _ h2
  refine mm_putF (k := 0) E hnm hZ cl_X w_167 (by decide) rfl rfl hxMa (by decide) rfl rfl (Nat.le_of_ble_eq_true rfl) d_X_init_12 (fun H locs hZ => ?_)
  obtain ⟨M5, eM5⟩ : ∃ zz : mm_M, zz = mm_up Ma x (ob 1 0 [.ref rl, .null, .null, .null, .null, .null, .long 0]) := ⟨_, rfl⟩
  have hZ : mm_S g s M5 H locs := by rw [eM5]; exact hZ
  have h6 := (congrFun eM5 x).trans (mm_self _ _ _)
  have kk_M5 : ∀ u, 19 ≤ u → mm_same u M0 M5 := fun u hu => (kk_Ma u hu).tr (by rw [eM5]; exact mm_same.up hxMa (by omega) _)
  have hRl_M5 := hRl.kept (M' := M5) (fun u hu => by rw [eM5]; exact mm_same.up hxMa (by rcases hu with rfl | rfl | rfl <;> decide) _)
  refine lv_aload_n hx hb d_X_init_15 rfl (lv_at hl 0 rfl) ?_
  refine mm_new 3 E hZ cl_Holi w_71 ni_Holi.1 ni_Holi.2 fs_Holi (Nat.le_of_ble_eq_true rfl) (Nat.le_of_ble_eq_true rfl) d_X_init_16 (fun yl H hByl hNyl hZ => ?_)
  obtain ⟨M7, eM7⟩ : ∃ zz : mm_M, zz = mm_up M5 yl (ob 3 4 [.null, .int 0]) := ⟨_, rfl⟩
  have hZ : mm_S g s M7 H locs := by rw [eM7]; exact hZ
  have h8 := (congrFun eM7 x).trans ((mm_ne _ _ (mm_apartN h6 hNyl)).trans h6)
  have h9 := (congrFun eM7 yl).trans (mm_self _ _ _)
  have kk_M7 : ∀ u, 19 ≤ u → mm_same u M0 M7 := fun u hu => (kk_M5 u hu).tr (by rw [eM7]; exact mm_same.new hNyl _)
  have hRl_M7 := hRl_M5.kept (M' := M7) (fun u hu => by rw [eM7]; exact mm_same.new hNyl _)
  refine lv_dup hx hb d_X_init_19 rfl ?_
  refine mm_callv (mm_runI (As := []) (rest := [.ref yl, .ref x]) E hZ hml hl.1 lk_X_18 me_Holi_init in_Holi_init (c_Holi_init l g h9) ⟨Nat.le_of_ble_eq_true rfl, Nat.le_of_ble_eq_true rfl⟩ rfl (Nat.le_of_ble_eq_true rfl) d_X_init_20 ⟨Nat.le_of_ble_eq_true rfl, Nat.le_of_ble_eq_true rfl⟩) hZ (fun Mb H locs hp hZ => ?_)
  obtain ⟨da, hHl, hsyl⟩ := hp
  have kk_Mb : ∀ u, 19 ≤ u → mm_same u M0 Mb := fun u hu => (kk_M7 u hu).tr (hsyl u (by omega) (by omega))
  have hRl_Mb := hRl_M7.kept (M' := Mb) (fun u hu => hsyl u (by rcases hu with rfl | rfl | rfl <;> decide) (by rcases hu with rfl | rfl | rfl <;> decide))
  have hxMb := hsyl 1 (by decide) (by decide) _ _ h8
  refine mm_putF (k := 1) E hnm hZ cl_X w_168 (by decide) rfl rfl hxMb (by decide) rfl rfl (Nat.le_of_ble_eq_true rfl) d_X_init_23 (fun H locs hZ => ?_)
  obtain ⟨M11, eM11⟩ : ∃ zz : mm_M, zz = mm_up Mb x (ob 1 0 [.ref rl, .ref yl, .null, .null, .null, .null, .long 0]) := ⟨_, rfl⟩
  have hZ : mm_S g s M11 H locs := by rw [eM11]; exact hZ
  have h12 := (congrFun eM11 x).trans (mm_self _ _ _)
  have kk_M11 : ∀ u, 19 ≤ u → mm_same u M0 M11 := fun u hu => (kk_Mb u hu).tr (by rw [eM11]; exact mm_same.up hxMb (by omega) _)
  have hRl_M11 := hRl_Mb.kept (M' := M11) (fun u hu => by rw [eM11]; exact mm_same.up hxMb (by rcases hu with rfl | rfl | rfl <;> decide) _)
  have hHl_M11 := hHl.kept (M' := M11) (fun u hu => by rw [eM11]; exact mm_same.up hxMb (by rcases hu with rfl | rfl <;> decide) _)
  refine lv_aload_n hx hb d_X_init_26 rfl (lv_at hl 0 rfl) ?_
  refine mm_new 4 E hZ cl_AlarmL w_85 ni_AlarmL.1 ni_AlarmL.2 fs_AlarmL (Nat.le_of_ble_eq_true rfl) (Nat.le_of_ble_eq_true rfl) d_X_init_27 (fun tl H hBtl hNtl hZ => ?_)
  obtain ⟨M13, eM13⟩ : ∃ zz : mm_M, zz = mm_up M11 tl (ob 4 2 [.null]) := ⟨_, rfl⟩
  have hZ : mm_S g s M13 H locs := by rw [eM13]; exact hZ
  have h14 := (congrFun eM13 x).trans ((mm_ne _ _ (mm_apartN h12 hNtl)).trans h12)
  have h15 := (congrFun eM13 tl).trans (mm_self _ _ _)
  have kk_M13 : ∀ u, 19 ≤ u → mm_same u M0 M13 := fun u hu => (kk_M11 u hu).tr (by rw [eM13]; exact mm_same.new hNtl _)
  have hRl_M13 := hRl_M11.kept (M' := M13) (fun u hu => by rw [eM13]; exact mm_same.new hNtl _)
  have hHl_M13 := hHl_M11.kept (M' := M13) (fun u hu => by rw [eM13]; exact mm_same.new hNtl _)
  refine lv_dup hx hb d_X_init_30 rfl ?_
  refine mm_callv (mm_runI (As := []) (rest := [.ref tl, .ref x]) E hZ hml hl.1 lk_X_25 me_AlarmL_init in_AlarmL_init (c_AlarmL_init l g h15 at0 F) ⟨Nat.le_of_ble_eq_true rfl, Nat.le_of_ble_eq_true rfl⟩ rfl (Nat.le_of_ble_eq_true rfl) d_X_init_31 ⟨Nat.le_of_ble_eq_true rfl, Nat.le_of_ble_eq_true rfl⟩) hZ (fun Mc H locs hp hZ => ?_)
  obtain ⟨lt, hTl, hstl⟩ := hp
  have kk_Mc : ∀ u, 19 ≤ u → mm_same u M0 Mc := fun u hu => (kk_M13 u hu).tr (hstl u (by omega) (by omega))
  have hRl_Mc := hRl_M13.kept (M' := Mc) (fun u hu => hstl u (by rcases hu with rfl | rfl | rfl <;> decide) (by rcases hu with rfl | rfl | rfl <;> decide))
  have hHl_Mc := hHl_M13.kept (M' := Mc) (fun u hu => hstl u (by rcases hu with rfl | rfl <;> decide) (by rcases hu with rfl | rfl <;> decide))
  have hxMc := hstl 1 (by decide) (by decide) _ _ h14
  refine mm_putF (k := 2) E hnm hZ cl_X w_169 (by decide) rfl rfl hxMc (by decide) rfl rfl (Nat.le_of_ble_eq_true rfl) d_X_init_34 (fun H locs hZ => ?_)
  obtain ⟨M17, eM17⟩ : ∃ zz : mm_M, zz = mm_up Mc x (ob 1 0 [.ref rl, .ref yl, .ref tl, .null, .null, .null, .long 0]) := ⟨_, rfl⟩
  have hZ : mm_S g s M17 H locs := by rw [eM17]; exact hZ
  have h18 := (congrFun eM17 x).trans (mm_self _ _ _)
  have kk_M17 : ∀ u, 19 ≤ u → mm_same u M0 M17 := fun u hu => (kk_Mc u hu).tr (by rw [eM17]; exact mm_same.up hxMc (by omega) _)
  have hRl_M17 := hRl_Mc.kept (M' := M17) (fun u hu => by rw [eM17]; exact mm_same.up hxMc (by rcases hu with rfl | rfl | rfl <;> decide) _)
  have hHl_M17 := hHl_Mc.kept (M' := M17) (fun u hu => by rw [eM17]; exact mm_same.up hxMc (by rcases hu with rfl | rfl <;> decide) _)
  have hTl_M17 := hTl.kept (M' := M17) (fun u hu => by rw [eM17]; exact mm_same.up hxMc (by rcases hu with rfl | rfl | rfl <;> decide) _)
  refine lv_aload_n hx hb d_X_init_37 rfl (lv_at hl 0 rfl) ?_
  refine mm_new 5 E hZ cl_Cnts w_97 ni_Cnts.1 ni_Cnts.2 fs_Cnts (Nat.le_of_ble_eq_true rfl) (Nat.le_of_ble_eq_true rfl) d_X_init_38 (fun cn H hBcn hNcn hZ => ?_)
  obtain ⟨M19, eM19⟩ : ∃ zz : mm_M, zz = mm_up M17 cn (ob 5 6 [.null, .null]) := ⟨_, rfl⟩
  have hZ : mm_S g s M19 H locs := by rw [eM19]; exact hZ
  have h20 := (congrFun eM19 x).trans ((mm_ne _ _ (mm_apartN h18 hNcn)).trans h18)
  have h21 := (congrFun eM19 cn).trans (mm_self _ _ _)
  have kk_M19 : ∀ u, 19 ≤ u → mm_same u M0 M19 := fun u hu => (kk_M17 u hu).tr (by rw [eM19]; exact mm_same.new hNcn _)
  have hRl_M19 := hRl_M17.kept (M' := M19) (fun u hu => by rw [eM19]; exact mm_same.new hNcn _)
  have hHl_M19 := hHl_M17.kept (M' := M19) (fun u hu => by rw [eM19]; exact mm_same.new hNcn _)
  have hTl_M19 := hTl_M17.kept (M' := M19) (fun u hu => by rw [eM19]; exact mm_same.new hNcn _)
  refine lv_dup hx hb d_X_init_41 rfl ?_
  refine mm_callv (mm_runI (As := []) (rest := [.ref cn, .ref x]) E hZ hml hl.1 lk_X_32 me_Cnts_init in_Cnts_init (c_Cnts_init l g h21) ⟨Nat.le_of_ble_eq_true rfl, Nat.le_of_ble_eq_true rfl⟩ rfl (Nat.le_of_ble_eq_true rfl) d_X_init_42 ⟨Nat.le_of_ble_eq_true rfl, Nat.le_of_ble_eq_true rfl⟩) hZ (fun Md H locs hp hZ => ?_)
  obtain ⟨bA, lA, hCn, hscn⟩ := hp
  have kk_Md : ∀ u, 19 ≤ u → mm_same u M0 Md := fun u hu => (kk_M19 u hu).tr (hscn u (by omega) (by omega) (by omega))
  have hRl_Md := hRl_M19.kept (M' := Md) (fun u hu => hscn u (by rcases hu with rfl | rfl | rfl <;> decide) (by rcases hu with rfl | rfl | rfl <;> decide) (by rcases hu with rfl | rfl | rfl <;> decide))
  have hHl_Md := hHl_M19.kept (M' := Md) (fun u hu => hscn u (by rcases hu with rfl | rfl <;> decide) (by rcases hu with rfl | rfl <;> decide) (by rcases hu with rfl | rfl <;> decide))
  have hTl_Md := hTl_M19.kept (M' := Md) (fun u hu => hscn u (by rcases hu with rfl | rfl | rfl <;> decide) (by rcases hu with rfl | rfl | rfl <;> decide) (by rcases hu with rfl | rfl | rfl <;> decide))
  have hxMd := hscn 1 (by decide) (by decide) (by decide) _ _ h20
  refine mm_putF (k := 3) E hnm hZ cl_X w_170 (by decide) rfl rfl hxMd (by decide) rfl rfl (Nat.le_of_ble_eq_true rfl) d_X_init_45 (fun H locs hZ => ?_)
  obtain ⟨M23, eM23⟩ : ∃ zz : mm_M, zz = mm_up Md x (ob 1 0 [.ref rl, .ref yl, .ref tl, .ref cn, .null, .null, .long 0]) := ⟨_, rfl⟩
  have hZ : mm_S g s M23 H locs := by rw [eM23]; exact hZ
  have h24 := (congrFun eM23 x).trans (mm_self _ _ _)
  have kk_M23 : ∀ u, 19 ≤ u → mm_same u M0 M23 := fun u hu => (kk_Md u hu).tr (by rw [eM23]; exact mm_same.up hxMd (by omega) _)
  have hRl_M23 := hRl_Md.kept (M' := M23) (fun u hu => by rw [eM23]; exact mm_same.up hxMd (by rcases hu with rfl | rfl | rfl <;> decide) _)
  have hHl_M23 := hHl_Md.kept (M' := M23) (fun u hu => by rw [eM23]; exact mm_same.up hxMd (by rcases hu with rfl | rfl <;> decide) _)
  have hTl_M23 := hTl_Md.kept (M' := M23) (fun u hu => by rw [eM23]; exact mm_same.up hxMd (by rcases hu with rfl | rfl | rfl <;> decide) _)
  have hCn_M23 := hCn.kept (M' := M23) (fun u hu => by rw [eM23]; exact mm_same.up hxMd (by rcases hu with rfl | rfl | rfl <;> decide) _)
  refine lv_aload_n hx hb d_X_init_48 rfl (lv_at hl 0 rfl) ?_
  refine mm_new 6 E hZ cl_Deliv w_111 ni_Deliv.1 ni_Deliv.2 fs_Deliv (Nat.le_of_ble_eq_true rfl) (Nat.le_of_ble_eq_true rfl) d_X_init_49 (fun dl H hBdl hNdl hZ => ?_)
  obtain ⟨M25, eM25⟩ : ∃ zz : mm_M, zz = mm_up M23 dl (ob 6 3 [.null, .null, .int 0]) := ⟨_, rfl⟩
  have hZ : mm_S g s M25 H locs := by rw [eM25]; exact hZ
  have h26 := (congrFun eM25 x).trans ((mm_ne _ _ (mm_apartN h24 hNdl)).trans h24)
  have h27 := (congrFun eM25 dl).trans (mm_self _ _ _)
  have kk_M25 : ∀ u, 19 ≤ u → mm_same u M0 M25 := fun u hu => (kk_M23 u hu).tr (by rw [eM25]; exact mm_same.new hNdl _)
  have hRl_M25 := hRl_M23.kept (M' := M25) (fun u hu => by rw [eM25]; exact mm_same.new hNdl _)
  have hHl_M25 := hHl_M23.kept (M' := M25) (fun u hu => by rw [eM25]; exact mm_same.new hNdl _)
  have hTl_M25 := hTl_M23.kept (M' := M25) (fun u hu => by rw [eM25]; exact mm_same.new hNdl _)
  have hCn_M25 := hCn_M23.kept (M' := M25) (fun u hu => by rw [eM25]; exact mm_same.new hNdl _)
  refine lv_dup hx hb d_X_init_52 rfl ?_
  refine mm_callv (mm_runI (As := []) (rest := [.ref dl, .ref x]) E hZ hml hl.1 lk_X_39 me_Deliv_init in_Deliv_init (c_Deliv_init l g h27) ⟨Nat.le_of_ble_eq_true rfl, Nat.le_of_ble_eq_true rfl⟩ rfl (Nat.le_of_ble_eq_true rfl) d_X_init_53 ⟨Nat.le_of_ble_eq_true rfl, Nat.le_of_ble_eq_true rfl⟩) hZ (fun Me H locs hp hZ => ?_)
  obtain ⟨dA2, sA, hDl, hsdl⟩ := hp
  have kk_Me : ∀ u, 19 ≤ u → mm_same u M0 Me := fun u hu => (kk_M25 u hu).tr (hsdl u (by omega) (by omega) (by omega))
  have hRl_Me := hRl_M25.kept (M' := Me) (fun u hu => hsdl u (by rcases hu with rfl | rfl | rfl <;> decide) (by rcases hu with rfl | rfl | rfl <;> decide) (by rcases hu with rfl | rfl | rfl <;> decide))
  have hHl_Me := hHl_M25.kept (M' := Me) (fun u hu => hsdl u (by rcases hu with rfl | rfl <;> decide) (by rcases hu with rfl | rfl <;> decide) (by rcases hu with rfl | rfl <;> decide))
  have hTl_Me := hTl_M25.kept (M' := Me) (fun u hu => hsdl u (by rcases hu with rfl | rfl | rfl <;> decide) (by rcases hu with rfl | rfl | rfl <;> decide) (by rcases hu with rfl | rfl | rfl <;> decide))
  have hCn_Me := hCn_M25.kept (M' := Me) (fun u hu => hsdl u (by rcases hu with rfl | rfl | rfl <;> decide) (by rcases hu with rfl | rfl | rfl <;> decide) (by rcases hu with rfl | rfl | rfl <;> decide))
  have hxMe := hsdl 1 (by decide) (by decide) (by decide) _ _ h26
  refine mm_putF (k := 4) E hnm hZ cl_X w_171 (by decide) rfl rfl hxMe (by decide) rfl rfl (Nat.le_of_ble_eq_true rfl) d_X_init_56 (fun H locs hZ => ?_)
  obtain ⟨M29, eM29⟩ : ∃ zz : mm_M, zz = mm_up Me x (ob 1 0 [.ref rl, .ref yl, .ref tl, .ref cn, .ref dl, .null, .long 0]) := ⟨_, rfl⟩
  have hZ : mm_S g s M29 H locs := by rw [eM29]; exact hZ
  have h30 := (congrFun eM29 x).trans (mm_self _ _ _)
  have kk_M29 : ∀ u, 19 ≤ u → mm_same u M0 M29 := fun u hu => (kk_Me u hu).tr (by rw [eM29]; exact mm_same.up hxMe (by omega) _)
  have hRl_M29 := hRl_Me.kept (M' := M29) (fun u hu => by rw [eM29]; exact mm_same.up hxMe (by rcases hu with rfl | rfl | rfl <;> decide) _)
  have hHl_M29 := hHl_Me.kept (M' := M29) (fun u hu => by rw [eM29]; exact mm_same.up hxMe (by rcases hu with rfl | rfl <;> decide) _)
  have hTl_M29 := hTl_Me.kept (M' := M29) (fun u hu => by rw [eM29]; exact mm_same.up hxMe (by rcases hu with rfl | rfl | rfl <;> decide) _)
  have hCn_M29 := hCn_Me.kept (M' := M29) (fun u hu => by rw [eM29]; exact mm_same.up hxMe (by rcases hu with rfl | rfl | rfl <;> decide) _)
  have hDl_M29 := hDl.kept (M' := M29) (fun u hu => by rw [eM29]; exact mm_same.up hxMe (by rcases hu with rfl | rfl | rfl <;> decide) _)
  refine lv_aload_n hx hb d_X_init_59 rfl (lv_at hl 0 rfl) ?_
  refine lv_sipush (v := 200) hx hb d_X_init_60 (by decide) ?_
  refine mm_newq 18 (t0 := 3) (cA := g.2.2 3) (N := 200) E hZ rfl w_127 E.2.2.2.2.2.2.1 (by decide) (by decide) (by decide) (Nat.le_of_ble_eq_true rfl) (Nat.le_of_ble_eq_true rfl) d_X_init_63 (fun ia H hBia hNia hZ => ?_)
  obtain ⟨Mf, eMf⟩ : ∃ zz : mm_M, zz = mm_up M29 ia (aq 18 (g.2.2 3) 200 (fun _ => none)) := ⟨_, rfl⟩
  have hZ : mm_S g s Mf H locs := by rw [eMf]; exact hZ
  have h31 := (congrFun eMf x).trans ((mm_ne _ _ (mm_apartN h30 hNia)).trans h30)
  have h32 := (congrFun eMf ia).trans (mm_self _ _ _)
  have kk_Mf : ∀ u, 19 ≤ u → mm_same u M0 Mf := fun u hu => (kk_M29 u hu).tr (by rw [eMf]; exact mm_same.new hNia _)
  have hRl_Mf := hRl_M29.kept (M' := Mf) (fun u hu => by rw [eMf]; exact mm_same.new hNia _)
  have hHl_Mf := hHl_M29.kept (M' := Mf) (fun u hu => by rw [eMf]; exact mm_same.new hNia _)
  have hTl_Mf := hTl_M29.kept (M' := Mf) (fun u hu => by rw [eMf]; exact mm_same.new hNia _)
  have hCn_Mf := hCn_M29.kept (M' := Mf) (fun u hu => by rw [eMf]; exact mm_same.new hNia _)
  have hDl_Mf := hDl_M29.kept (M' := Mf) (fun u hu => by rw [eMf]; exact mm_same.new hNia _)
  refine mm_putF (k := 5) E hnm hZ cl_X w_172 (by decide) rfl rfl h31 (by decide) rfl rfl (Nat.le_of_ble_eq_true rfl) d_X_init_66 (fun H locs hZ => ?_)
  obtain ⟨M33, eM33⟩ : ∃ zz : mm_M, zz = mm_up Mf x (ob 1 0 [.ref rl, .ref yl, .ref tl, .ref cn, .ref dl, .ref ia, .long 0]) := ⟨_, rfl⟩
  have hZ : mm_S g s M33 H locs := by rw [eM33]; exact hZ
  have h34 := (congrFun eM33 ia).trans ((mm_ne _ _ (mm_tag h32 h31 (by decide))).trans h32)
  have h35 := (congrFun eM33 x).trans (mm_self _ _ _)
  have kk_M33 : ∀ u, 19 ≤ u → mm_same u M0 M33 := fun u hu => (kk_Mf u hu).tr (by rw [eM33]; exact mm_same.up h31 (by omega) _)
  have hRl_M33 := hRl_Mf.kept (M' := M33) (fun u hu => by rw [eM33]; exact mm_same.up h31 (by rcases hu with rfl | rfl | rfl <;> decide) _)
  have hHl_M33 := hHl_Mf.kept (M' := M33) (fun u hu => by rw [eM33]; exact mm_same.up h31 (by rcases hu with rfl | rfl <;> decide) _)
  have hTl_M33 := hTl_Mf.kept (M' := M33) (fun u hu => by rw [eM33]; exact mm_same.up h31 (by rcases hu with rfl | rfl | rfl <;> decide) _)
  have hCn_M33 := hCn_Mf.kept (M' := M33) (fun u hu => by rw [eM33]; exact mm_same.up h31 (by rcases hu with rfl | rfl | rfl <;> decide) _)
  have hDl_M33 := hDl_Mf.kept (M' := M33) (fun u hu => by rw [eM33]; exact mm_same.up h31 (by rcases hu with rfl | rfl | rfl <;> decide) _)
  refine lv_aload_n hx hb d_X_init_69 rfl (lv_at hl 0 rfl) ?_
  refine lv_lconst (v := 0) hx hb d_X_init_70 (by decide) ?_
  refine mm_put E hZ cl_X fl_X_50 (by decide) rfl h35 (by decide) rfl rfl (Nat.le_of_ble_eq_true rfl) d_X_init_71 (fun H locs hZ => ?_)
  obtain ⟨M36, eM36⟩ : ∃ zz : mm_M, zz = mm_up M33 x (ob 1 0 [.ref rl, .ref yl, .ref tl, .ref cn, .ref dl, .ref ia, .long 0]) := ⟨_, rfl⟩
  have hZ : mm_S g s M36 H locs := by rw [eM36]; exact hZ
  have h37 := (congrFun eM36 ia).trans ((mm_ne _ _ (mm_tag h34 h35 (by decide))).trans h34)
  have h38 := (congrFun eM36 x).trans (mm_self _ _ _)
  have kk_M36 : ∀ u, 19 ≤ u → mm_same u M0 M36 := fun u hu => (kk_M33 u hu).tr (by rw [eM36]; exact mm_same.up h35 (by omega) _)
  have hRl_M36 := hRl_M33.kept (M' := M36) (fun u hu => by rw [eM36]; exact mm_same.up h35 (by rcases hu with rfl | rfl | rfl <;> decide) _)
  have hHl_M36 := hHl_M33.kept (M' := M36) (fun u hu => by rw [eM36]; exact mm_same.up h35 (by rcases hu with rfl | rfl <;> decide) _)
  have hTl_M36 := hTl_M33.kept (M' := M36) (fun u hu => by rw [eM36]; exact mm_same.up h35 (by rcases hu with rfl | rfl | rfl <;> decide) _)
  have hCn_M36 := hCn_M33.kept (M' := M36) (fun u hu => by rw [eM36]; exact mm_same.up h35 (by rcases hu with rfl | rfl | rfl <;> decide) _)
  have hDl_M36 := hDl_M33.kept (M' := M36) (fun u hu => by rw [eM36]; exact mm_same.up h35 (by rcases hu with rfl | rfl | rfl <;> decide) _)
  refine lv_iconst (v := 0) hx hb d_X_init_74 (by decide) ?_
  refine lv_istore_n (lv' := [(1, .int 0), (0, .ref x)]) hx hb d_X_init_75 rfl hl (by decide) rfl (fun ls hl => ?_)
  have hB : True := trivial
  have loop : ∀ (n : Nat) (f : Nat → Option Nat) (fa : Nat → Nat) (i : Nat) (M : mm_M) (H : Heap) (locs : List Loc) (ls : Array Slot), mm_S g s M H locs → M x = some (xob rl yl tl cn dl ia 0) → M ia = some (aq 18 (g.2.2 3) 200 f) → Rl g M rl la lf 0 0 0 0 ad af → Hl g M yl da 0 (fun _ => 0) → Tl g M tl lt 0 0 at0 F → Cn g M cn bA lA (fun _ => 0) (fun _ => 0) → Dl g M dl dA2 sA 0 (fun _ => 0) (fun _ => 0) → i ≤ 200 → (∀ k, k < i → f k = some (fa k)) → (∀ k, k < i → M (fa k) = some (itE it0)) → (∀ a b, a < i → b < i → fa a = fa b → a = b) → (∀ u, 19 ≤ u → mm_same u M0 M) → 201 ≤ i + n → lv_has ls 2 [(0, .ref x), (1, .int (nI i))] → W pG l eV (rk 5 100 214 3043) s m args below meth cdx H locs (14 + i) (1443 + 8 * i) Q (F0 m 76 ls []) := by
    intro n
    induction n with
    | zero => exact fun f fa i M H locs ls _ hMx hMi kRl kHl kTl kCn kDl hi1 hf hit hinj ksm hfu _ => absurd hfu (by omega)
    | succ n ih =>
      intro f fa i M H locs ls hZ hMx hMi kRl kHl kTl kCn kDl hi1 hf hit hinj ksm hfu hl
      refine lv_iload_n hx hb d_X_init_76 rfl (lv_at hl 1 rfl) ?_
      refine lv_sipush (v := 200) hx hb d_X_init_77 (by decide) ?_
      refine lv_icmp_ge (tgt := 102) hx hb d_X_init_80 (by decide) (fun c80 => ?_) (fun c80 => ?_)
      · have hi2 : i = 200 := by
          rcases Nat.lt_or_ge i 200 with z | z
          · exact absurd (show nI 200 ≤ nI i from c80) (nI_ge z (by decide))
          · omega
        subst hi2
        refine W.widen (k := 214) (n := 3043) (by omega) (by omega) ?_
        exact mm_vret E hr hlk eQ hZ d_X_init_102 ⟨rfl, rl, la, lf, yl, da, tl, lt, cn, bA, lA, dl, dA2, sA, ia, fa, hMx, kRl, kHl, kTl, kCn, kDl, ⟨⟨f, hMi, hf⟩, hit, hinj⟩, ksm⟩
      · have hi2 : i < 200 := by
          rcases Nat.lt_or_ge i 200 with z | z
          · exact z
          · exact absurd (show nI 200 ≤ nI i from nI_le z (by omega)) c80
        refine lv_aload_n hx hb d_X_init_83 rfl (lv_at hl 0 rfl) ?_
        refine mm_get E hZ cl_X fl_X_46 (by decide) hMx rfl d_X_init_84 ?_
        refine lv_iload_n hx hb d_X_init_87 rfl (lv_at hl 1 rfl) ?_
        refine mm_new 7 E hZ cl_Item w_127 ni_Item.1 ni_Item.2 fs_Item (by show 14 + i + 1 ≤ 214; omega) (by show 1443 + 8 * i + 8 ≤ 3043; omega) d_X_init_88 (fun q H hBq hNq hZ => ?_)
        obtain ⟨M39, eM39⟩ : ∃ zz : mm_M, zz = mm_up M q (ob 7 5 [.int 0, .long 0, .long 0, .int 0, .int 0, .long 0, .int 0, .int 0]) := ⟨_, rfl⟩
        have hZ : mm_S g s M39 H locs := by rw [eM39]; exact hZ
        have h40 := (congrFun eM39 x).trans ((mm_ne _ _ (mm_apartN hMx hNq)).trans hMx)
        have h41 := (congrFun eM39 ia).trans ((mm_ne _ _ (mm_apartN hMi hNq)).trans hMi)
        have h42 := (congrFun eM39 q).trans (mm_self _ _ _)
        have hRl_M39 := kRl.kept (M' := M39) (fun u hu => by rw [eM39]; exact mm_same.new hNq _)
        have hHl_M39 := kHl.kept (M' := M39) (fun u hu => by rw [eM39]; exact mm_same.new hNq _)
        have hTl_M39 := kTl.kept (M' := M39) (fun u hu => by rw [eM39]; exact mm_same.new hNq _)
        have hCn_M39 := kCn.kept (M' := M39) (fun u hu => by rw [eM39]; exact mm_same.new hNq _)
        have hDl_M39 := kDl.kept (M' := M39) (fun u hu => by rw [eM39]; exact mm_same.new hNq _)
        have kk_M39 : ∀ u, 19 ≤ u → mm_same u M0 M39 := fun u hu => (ksm u hu).tr (by rw [eM39]; exact mm_same.new hNq _)
        have hit1 : ∀ k, k < i → M39 (fa k) = some (itE it0) := fun k hk => (congrFun eM39 (fa k)).trans ((mm_ne _ _ (mm_apartN (hit k hk) hNq)).trans (hit k hk))
        have hne : ∀ k, k < i → fa k ≠ q := fun k hk => mm_apartN (hit k hk) hNq
        refine lv_dup hx hb d_X_init_91 rfl ?_
        refine mm_callv (mm_runI (As := []) (rest := [.ref q, .int (nI i), .ref ia]) E hZ hml hl.1 lk_X_54 me_Item_init in_Item_init (c_Item_init l g h42) ⟨Nat.le_of_ble_eq_true rfl, Nat.le_of_ble_eq_true rfl⟩ rfl (Nat.le_of_ble_eq_true rfl) d_X_init_92 ⟨by show 14 + i + 1 + 0 ≤ 214; omega, by show 1443 + 8 * i + 8 + 0 ≤ 3043; omega⟩) hZ (fun Mi H locs hp hZ => ?_)
        have hRl_Mi := hRl_M39.kept (M' := Mi) (fun u hu => by rw [hp]; exact mm_same.up h42 (by rcases hu with rfl | rfl | rfl <;> decide) _)
        have hHl_Mi := hHl_M39.kept (M' := Mi) (fun u hu => by rw [hp]; exact mm_same.up h42 (by rcases hu with rfl | rfl <;> decide) _)
        have hTl_Mi := hTl_M39.kept (M' := Mi) (fun u hu => by rw [hp]; exact mm_same.up h42 (by rcases hu with rfl | rfl | rfl <;> decide) _)
        have hCn_Mi := hCn_M39.kept (M' := Mi) (fun u hu => by rw [hp]; exact mm_same.up h42 (by rcases hu with rfl | rfl | rfl <;> decide) _)
        have hDl_Mi := hDl_M39.kept (M' := Mi) (fun u hu => by rw [hp]; exact mm_same.up h42 (by rcases hu with rfl | rfl | rfl <;> decide) _)
        have kk_Mi : ∀ u, 19 ≤ u → mm_same u M0 Mi := fun u hu => (kk_M39 u hu).tr (by rw [hp]; exact mm_same.up h42 (by omega) _)
        have hit2 : ∀ k, k < i → Mi (fa k) = some (itE it0) := fun k hk => (congrFun hp (fa k)).trans ((mm_ne _ _ (hne k hk)).trans (hit1 k hk))
        have hqi : Mi q = some (itE it0) := (congrFun hp q).trans (mm_self _ _ _)
        have hxi : Mi x = _ := (congrFun hp x).trans ((mm_ne _ _ (mm_tag h40 h42 (by decide))).trans h40)
        have hii : Mi ia = _ := (congrFun hp ia).trans ((mm_ne _ _ (mm_tag h41 h42 (by decide))).trans h41)
        refine mm_aast (t0 := 3) (tv := 7) (r := (R_Item, F_Item, 8)) E hZ hii rfl hqi item_cls (by decide) rfl (show i < 200 from hi2) (by decide) d_X_init_95 (fun H locs hZ => ?_)
        obtain ⟨Mj, eMj⟩ : ∃ zz : mm_M, zz = mm_up Mi ia (aq 18 (g.2.2 3) 200 (va_up f i (some q))) := ⟨_, rfl⟩
        have hZ : mm_S g s Mj H locs := by rw [eMj]; exact hZ
        have hRl_Mj := hRl_Mi.kept (M' := Mj) (fun u hu => by rw [eMj]; exact mm_same.up hii (by rcases hu with rfl | rfl | rfl <;> decide) _)
        have hHl_Mj := hHl_Mi.kept (M' := Mj) (fun u hu => by rw [eMj]; exact mm_same.up hii (by rcases hu with rfl | rfl <;> decide) _)
        have hTl_Mj := hTl_Mi.kept (M' := Mj) (fun u hu => by rw [eMj]; exact mm_same.up hii (by rcases hu with rfl | rfl | rfl <;> decide) _)
        have hCn_Mj := hCn_Mi.kept (M' := Mj) (fun u hu => by rw [eMj]; exact mm_same.up hii (by rcases hu with rfl | rfl | rfl <;> decide) _)
        have hDl_Mj := hDl_Mi.kept (M' := Mj) (fun u hu => by rw [eMj]; exact mm_same.up hii (by rcases hu with rfl | rfl | rfl <;> decide) _)
        have kk_Mj : ∀ u, 19 ≤ u → mm_same u M0 Mj := fun u hu => (kk_Mi u hu).tr (by rw [eMj]; exact mm_same.up hii (by omega) _)
        have hxj : Mj x = _ := (congrFun eMj x).trans ((mm_ne _ _ (mm_tag hxi hii (by decide))).trans hxi)
        have hij : Mj ia = _ := (congrFun eMj ia).trans (mm_self _ _ _)
        have hit3 : ∀ k, k < i + 1 → Mj (va_up fa i q k) = some (itE it0) := fun k hk => by
          by_cases z : k = i
          · subst z; rw [va_up_self]; exact (congrFun eMj q).trans ((mm_ne _ _ (mm_tag hqi hii (by decide))).trans hqi)
          · rw [va_up_ne _ _ z]; exact (congrFun eMj (fa k)).trans ((mm_ne _ _ (mm_tag (hit2 k (by omega)) hii (by decide))).trans (hit2 k (by omega)))
        have hf3 : ∀ k, k < i + 1 → va_up f i (some q) k = some (va_up fa i q k) := fun k hk => by
          by_cases z : k = i
          · subst z; rw [va_up_self, va_up_self]
          · rw [va_up_ne _ _ z, va_up_ne _ _ z]; exact hf k (by omega)
        have hinj3 : ∀ a b, a < i + 1 → b < i + 1 → va_up fa i q a = va_up fa i q b → a = b := fun a b ha hb2 z => by
          by_cases z1 : a = i
          · by_cases z2 : b = i
            · omega
            · rw [z1, va_up_self, va_up_ne _ _ z2] at z; exact absurd z.symm (hne b (by omega))
          · by_cases z2 : b = i
            · rw [z2, va_up_self, va_up_ne _ _ z1] at z; exact absurd z (hne a (by omega))
            · rw [va_up_ne _ _ z1, va_up_ne _ _ z2] at z; exact hinj a b (by omega) (by omega) z
        refine lv_iinc (v := (nI i) + 1) (lv' := [(1, .int ((nI i) + 1)), (0, .ref x)]) hx hb d_X_init_96 hl (k := 1) rfl rfl (by decide) rfl (fun ls hl => ?_)
        refine lv_goto (tgt := 76) hx hb d_X_init_99 (by decide) ?_
        rw [nI_1] at hl
        refine W.widen (k := 14 + (i + 1)) (n := 1443 + 8 * (i + 1)) (by show 14 + i + 1 + 0 ≤ _; omega) (by show 1443 + 8 * i + 8 + 0 ≤ _; omega) ?_
        exact ih (va_up f i (some q)) (va_up fa i q) (i + 1) Mj H locs ls hZ hxj hij hRl_Mj hHl_Mj hTl_Mj hCn_Mj hDl_Mj (by omega) hf3 hit3 hinj3 kk_Mj (by omega) (lv_sub hl [1, 0] rfl)
  exact loop 201 _ (fun _ => 0) 0 M36 H locs ls hZ h38 h37 hRl_M36 hHl_M36 hTl_M36 hCn_M36 hDl_M36 (Nat.zero_le _) (fun k hk => absurd hk (Nat.not_lt_zero k)) (fun k hk => absurd hk (Nat.not_lt_zero k)) (fun a b ha => absurd ha (Nat.not_lt_zero a)) kk_M36 (Nat.le_refl _) (lv_sub hl [1, 0] rfl)
set_option maxHeartbeats 4000000 in
set_option maxRecDepth 100000 in
theorem c_X_alarm (l : Launch) (g : mm_G) {M0 : mm_M} {x rl yl tl cn dl ia : Nat} {ck : Int64} (hox : M0 x = some (xob rl yl tl cn dl ia ck)) {lt c n : Nat} {ad : Nat → Nat} {F : Nat → Nat → Int32} (h0 : Tl g M0 tl lt c n ad F) (i u : Int32) : Ci l g y_X_alarm b_X_alarm 3 .int (rk 4 87 0 0) M0 [.ref x, .int i, .int u] (fun r M' => M' = M0 ∧ (((∀ j v, j < c → v < 5 → ¬ (i = nI j ∧ u = nI v)) ∧ r = (-1)) ∨ ∃ j v, j < c ∧ v < 5 ∧ i = nI j ∧ u = nI v ∧ r = F j v)) := by
  refine mm_enter (by decide) (Nat.le_of_ble_eq_true rfl) (fun pG eV s m args below meth cdx ls Q E hml hr hlk hnm hZ hl eQ => ?_)
  have hx := E.1
  have hb := E.2.1
  have hl : lv_has ls 3 [(0, .ref x), (1, .int i), (2, .int u)] := hl
  refine lv_aload_n hx hb d_X_alarm_0 rfl (lv_at hl 0 rfl) ?_
  refine mm_get E hZ cl_X fl_X_26 (by decide) hox rfl d_X_alarm_1 ?_
  refine lv_iload_n hx hb d_X_alarm_4 rfl (lv_at hl 1 rfl) ?_
  refine lv_iload_n hx hb d_X_alarm_5 rfl (lv_at hl 2 rfl) ?_
  refine mm_calli (mm_runV (As := [.int i, .int u]) (rest := []) E hZ hml hl.1 lk_X_114 me_AlarmL_partOf in_AlarmL_partOf (c_AlarmL_partOf l g h0 i u) h0.1 cl_AlarmL.1 ⟨Nat.le_of_ble_eq_true rfl, Nat.le_of_ble_eq_true rfl⟩ rfl (Nat.le_of_ble_eq_true rfl) d_X_alarm_6 ⟨Nat.le_of_ble_eq_true rfl, Nat.le_of_ble_eq_true rfl⟩) hZ (fun r1 M1 H locs hp hZ => ?_)
  rw [hp.1] at hZ
  replace hp := hp.2
  exact mm_iret (v := r1) E hr hlk eQ hZ d_X_alarm_9 ⟨_, rfl, rfl, hp⟩
set_option maxHeartbeats 4000000 in
set_option maxRecDepth 100000 in
theorem c_X_failing (l : Launch) (g : mm_G) {M0 : mm_M} {x rl yl tl cn dl ia : Nat} {ck : Int64} (hox : M0 x = some (xob rl yl tl cn dl ia ck)) {la lf c n cf nf : Nat} {ad af : Nat → Nat} (h0 : Rl g M0 rl la lf c n cf nf ad af) (hrow : ∀ j, j < cf → ∃ nu st pl sv wi fl hf, M0 (af j) = some (rowc nu st pl sv wi fl hf)) (i : Int32) : Ci l g y_X_failing b_X_failing 2 .int (rk 4 85 0 0) M0 [.ref x, .int i] (fun r M' => M' = M0 ∧ (((∀ j, j < cf → i ≠ nI j) ∧ r = 0) ∨ ∃ j nu st pl sv wi fl hf, j < cf ∧ i = nI j ∧ M0 (af j) = some (rowc nu st pl sv wi fl hf) ∧ r = nu)) := by
  refine mm_enter (by decide) (Nat.le_of_ble_eq_true rfl) (fun pG eV s m args below meth cdx ls Q E hml hr hlk hnm hZ hl eQ => ?_)
  have hx := E.1
  have hb := E.2.1
  have hl : lv_has ls 2 [(0, .ref x), (1, .int i)] := hl
  refine lv_aload_n hx hb d_X_failing_0 rfl (lv_at hl 0 rfl) ?_
  refine mm_get E hZ cl_X fl_X_10 (by decide) hox rfl d_X_failing_1 ?_
  refine lv_iload_n hx hb d_X_failing_4 rfl (lv_at hl 1 rfl) ?_
  refine mm_calli (mm_runV (As := [.int i]) (rest := []) E hZ hml hl.1 lk_X_168 me_RowL_failedRow in_RowL_failedRow (c_RowL_failedRow l g h0 hrow i) h0.1 cl_RowL.1 ⟨Nat.le_of_ble_eq_true rfl, Nat.le_of_ble_eq_true rfl⟩ rfl (Nat.le_of_ble_eq_true rfl) d_X_failing_5 ⟨Nat.le_of_ble_eq_true rfl, Nat.le_of_ble_eq_true rfl⟩) hZ (fun r1 M1 H locs hp hZ => ?_)
  rw [hp.1] at hZ
  replace hp := hp.2
  exact mm_iret (v := r1) E hr hlk eQ hZ d_X_failing_8 ⟨_, rfl, rfl, hp⟩
set_option maxHeartbeats 4000000 in
set_option maxRecDepth 100000 in
theorem c_X_holiday (l : Launch) (g : mm_G) {M0 : mm_M} {x rl yl tl cn dl ia : Nat} {ck : Int64} (hox : M0 x = some (xob rl yl tl cn dl ia ck)) {da c : Nat} {f : Nat → Int64} (h0 : Hl g M0 yl da c f) (hc : c ≤ 100) (t : Int64) : Ci l g y_X_holiday b_X_holiday 3 .int (rk 2 46 0 0) M0 [.ref x, .long t] (fun r M' => (¬ (0 ≤ t ∧ t ≤ 20000) ∧ r = (-102) ∧ M' = M0) ∨ ((0 ≤ t ∧ t ≤ 20000) ∧ (((∃ j, j < c ∧ f j = t) ∧ r = 0 ∧ M' = M0) ∨ ((¬ ∃ j, j < c ∧ f j = t) ∧ 100 ≤ c ∧ r = (-104) ∧ M' = M0) ∨ ((¬ ∃ j, j < c ∧ f j = t) ∧ c < 100 ∧ r = 1 ∧ ∃ f', Hl g M' yl da (c + 1) f' ∧ insL f f' c t ∧ ∀ u, u ≠ 3 → u ≠ 15 → mm_same u M0 M')))) := by
  refine mm_enter (by decide) (Nat.le_of_ble_eq_true rfl) (fun pG eV s m args below meth cdx ls Q E hml hr hlk hnm hZ hl eQ => ?_)
  have hx := E.1
  have hb := E.2.1
  have hl : lv_has ls 3 [(0, .ref x), (1, .long t)] := hl
  refine lv_lload_n hx hb d_X_holiday_0 rfl (lv_at hl 1 rfl) ?_
  refine lv_lconst (v := 0) hx hb d_X_holiday_1 (by decide) ?_
  refine W.lcmp hx hb d_X_holiday_2 ?_
  refine lv_if_lt (tgt := 14) hx hb d_X_holiday_3 (by decide) (fun c3 => ?_) (fun c3 => ?_)
  · have c3 := (lg_cmp_lt _ _).mp c3
    refine lv_bipush (v := (-102)) hx hb d_X_holiday_14 (by decide) ?_
    exact mm_iret (v := (-102)) E hr hlk eQ hZ d_X_holiday_16 ⟨_, rfl, Or.inl ⟨fun z => absurd z.1 (Int64.not_le.mpr c3), rfl, rfl⟩⟩
  · have c3 := mt (lg_cmp_lt _ _).mpr c3
    refine lv_lload_n hx hb d_X_holiday_6 rfl (lv_at hl 1 rfl) ?_
    refine lv_ldc2 (v := 20000) hx hb E.2.2.1 (E.2.2.2.1 _ w_464) d_X_holiday_7 ?_
    refine W.lcmp hx hb d_X_holiday_10 ?_
    refine lv_if_le (tgt := 17) hx hb d_X_holiday_11 (by decide) (fun c11 => ?_) (fun c11 => ?_)
    · have c11 := (lg_cmp_le _ _).mp c11
      refine lv_aload_n hx hb d_X_holiday_17 rfl (lv_at hl 0 rfl) ?_
      refine mm_get E hZ cl_X fl_X_19 (by decide) hox rfl d_X_holiday_18 ?_
      refine lv_lload_n hx hb d_X_holiday_21 rfl (lv_at hl 1 rfl) ?_
      refine mm_calli (mm_runV (As := [.long t]) (rest := []) E hZ hml hl.1 lk_X_123 me_Holi_addDay in_Holi_addDay (c_Holi_addDay l g h0 hc t) h0.1 cl_Holi.1 ⟨Nat.le_of_ble_eq_true rfl, Nat.le_of_ble_eq_true rfl⟩ rfl (Nat.le_of_ble_eq_true rfl) d_X_holiday_22 ⟨Nat.le_of_ble_eq_true rfl, Nat.le_of_ble_eq_true rfl⟩) hZ (fun r1 Mx H locs hp hZ => ?_)
      exact mm_iret (v := r1) E hr hlk eQ hZ d_X_holiday_25 ⟨_, rfl, Or.inr ⟨⟨Int64.not_lt.mp c3, c11⟩, hp⟩⟩
    · have c11 := mt (lg_cmp_le _ _).mpr c11
      refine lv_bipush (v := (-102)) hx hb d_X_holiday_14 (by decide) ?_
      exact mm_iret (v := (-102)) E hr hlk eQ hZ d_X_holiday_16 ⟨_, rfl, Or.inl ⟨fun z => absurd z.2 c11, rfl, rfl⟩⟩
set_option maxHeartbeats 4000000 in
set_option maxRecDepth 100000 in
theorem c_X_rule (l : Launch) (g : mm_G) {M0 : mm_M} {x rl yl tl cn dl ia : Nat} {ck : Int64} (hox : M0 x = some (xob rl yl tl cn dl ia ck)) {la lf c n cf nf : Nat} {ad af : Nat → Nat} (h0 : Rl g M0 rl la lf c n cf nf ad af) (hn19 : n < 2 ^ 19) (hrow : ∀ i, i < c → ∃ nu st pl sv wi fl hf, M0 (ad i) = some (rowc nu st pl sv wi fl hf)) (st pl sv : Int32) (wi : Int64) {fl : Int32} (hfl : bo fl) : Ci l g y_X_rule b_X_rule 7 .int (rk 8 198 (1 + alC c n) (7 + alS c n)) M0 [.ref x, .int st, .int pl, .int sv, .long wi, .int fl] (fun r M' => (¬ ((0 ≤ st ∧ st < 9) ∧ (pl = (-1) ∨ (0 ≤ pl ∧ pl < 50)) ∧ (sv = (-1) ∨ (0 ≤ sv ∧ sv < 5)) ∧ (0 ≤ wi ∧ wi ≤ 10000000)) ∧ r = (-102) ∧ M' = M0) ∨ (((0 ≤ st ∧ st < 9) ∧ (pl = (-1) ∨ (0 ≤ pl ∧ pl < 50)) ∧ (sv = (-1) ∨ (0 ≤ sv ∧ sv < 5)) ∧ (0 ≤ wi ∧ wi ≤ 10000000)) ∧ ((40 ≤ c ∧ r = (-104) ∧ M' = M0) ∨ (c < 40 ∧ r = nI (c + 1) ∧ ∃ q, M0 q = none ∧ M' q = some (rowc (nI (c + 1)) st pl sv wi fl 0) ∧ Al g M' 8 la (c + 1) (alM c n) (va_up ad c q) ∧ ∀ u, u ≠ 8 → mm_same u M0 M')))) := by
  refine mm_enter (by decide) (Nat.le_of_ble_eq_true rfl) (fun pG eV s m args below meth cdx ls Q E hml hr hlk hnm hZ hl eQ => ?_)
  have hx := E.1
  have hb := E.2.1
  have hl : lv_has ls 7 [(0, .ref x), (1, .int st), (2, .int pl), (3, .int sv), (4, .long wi), (6, .int fl)] := hl
  refine lv_iload_n hx hb d_X_rule_0 rfl (lv_at hl 1 rfl) ?_
  refine lv_if_lt (tgt := 10) hx hb d_X_rule_1 (by decide) (fun c1 => ?_) (fun c1 => ?_)
  · refine lv_bipush (v := (-102)) hx hb d_X_rule_10 (by decide) ?_
    refine W.widen (k := 1 + alC c n) (n := 7 + alS c n) (by show 0 ≤ 1 + alC c n; omega) (by show 0 ≤ 7 + alS c n; omega) ?_
    exact mm_iret (v := (-102)) E hr hlk eQ hZ d_X_rule_12 ⟨_, rfl, Or.inl ⟨fun z => absurd z.1.1 (Int32.not_le.mpr c1), rfl, rfl⟩⟩
  · refine lv_iload_n hx hb d_X_rule_4 rfl (lv_at hl 1 rfl) ?_
    refine lv_bipush (v := 9) hx hb d_X_rule_5 (by decide) ?_
    refine lv_icmp_lt (tgt := 13) hx hb d_X_rule_7 (by decide) (fun c7 => ?_) (fun c7 => ?_)
    · refine lv_iload_n hx hb d_X_rule_13 rfl (lv_at hl 2 rfl) ?_
      refine lv_iconst (v := (-1)) hx hb d_X_rule_14 (by decide) ?_
      refine lv_icmp_eq (tgt := 28) hx hb d_X_rule_15 (by decide) (fun c15 => ?_) (fun c15 => ?_)
      · have hpl : pl = (-1) ∨ (0 ≤ pl ∧ pl < 50) := Or.inl c15
        refine lv_iload_n hx hb d_X_rule_28 rfl (lv_at hl 3 rfl) ?_
        refine lv_iconst (v := (-1)) hx hb d_X_rule_29 (by decide) ?_
        refine lv_icmp_eq (tgt := 43) hx hb d_X_rule_30 (by decide) (fun c30 => ?_) (fun c30 => ?_)
        · have hsv : sv = (-1) ∨ (0 ≤ sv ∧ sv < 5) := Or.inl c30
          refine lv_lload hx hb d_X_rule_43 (lv_at hl 4 rfl) ?_
          refine lv_lconst (v := 0) hx hb d_X_rule_45 (by decide) ?_
          refine W.lcmp hx hb d_X_rule_46 ?_
          refine lv_if_lt (tgt := 59) hx hb d_X_rule_47 (by decide) (fun c47 => ?_) (fun c47 => ?_)
          · have c47 := (lg_cmp_lt _ _).mp c47
            refine lv_bipush (v := (-102)) hx hb d_X_rule_59 (by decide) ?_
            refine W.widen (k := 1 + alC c n) (n := 7 + alS c n) (by show 0 ≤ 1 + alC c n; omega) (by show 0 ≤ 7 + alS c n; omega) ?_
            exact mm_iret (v := (-102)) E hr hlk eQ hZ d_X_rule_61 ⟨_, rfl, Or.inl ⟨fun z => absurd z.2.2.2.1 (Int64.not_le.mpr c47), rfl, rfl⟩⟩
          · have c47 := mt (lg_cmp_lt _ _).mpr c47
            refine lv_lload hx hb d_X_rule_50 (lv_at hl 4 rfl) ?_
            refine lv_ldc2 (v := 10000000) hx hb E.2.2.1 (E.2.2.2.1 _ w_199) d_X_rule_52 ?_
            refine W.lcmp hx hb d_X_rule_55 ?_
            refine lv_if_le (tgt := 62) hx hb d_X_rule_56 (by decide) (fun c56 => ?_) (fun c56 => ?_)
            · have c56 := (lg_cmp_le _ _).mp c56
              refine lv_aload_n hx hb d_X_rule_62 rfl (lv_at hl 0 rfl) ?_
              refine mm_get E hZ cl_X fl_X_10 (by decide) hox rfl d_X_rule_63 ?_
              refine lv_iload_n hx hb d_X_rule_66 rfl (lv_at hl 1 rfl) ?_
              refine lv_iload_n hx hb d_X_rule_67 rfl (lv_at hl 2 rfl) ?_
              refine lv_iload_n hx hb d_X_rule_68 rfl (lv_at hl 3 rfl) ?_
              refine lv_lload hx hb d_X_rule_69 (lv_at hl 4 rfl) ?_
              refine lv_iload hx hb d_X_rule_71 (lv_at hl 5 rfl) ?_
              refine mm_calli (mm_runV (As := [.int st, .int pl, .int sv, .long wi, .int fl]) (rest := []) E hZ hml hl.1 lk_X_64 me_RowL_addRow in_RowL_addRow (c_RowL_addRow l g h0 hn19 hrow st pl sv wi hfl) h0.1 cl_RowL.1 ⟨Nat.le_of_ble_eq_true rfl, Nat.le_of_ble_eq_true rfl⟩ rfl (Nat.le_of_ble_eq_true rfl) d_X_rule_73 ⟨by show 0 + (1 + alC c n) ≤ 1 + alC c n; omega, by show 0 + (7 + alS c n) ≤ 7 + alS c n; omega⟩) hZ (fun r1 Mx H locs hp hZ => ?_)
              refine W.widen (k := 1 + alC c n) (n := 7 + alS c n) (by show 0 + (1 + alC c n) ≤ 1 + alC c n; omega) (by show 0 + (7 + alS c n) ≤ 7 + alS c n; omega) ?_
              exact mm_iret (v := r1) E hr hlk eQ hZ d_X_rule_76 ⟨_, rfl, Or.inr ⟨⟨⟨Int32.not_lt.mp c1, c7⟩, hpl, hsv, Int64.not_lt.mp c47, c56⟩, hp⟩⟩
            · have c56 := mt (lg_cmp_le _ _).mpr c56
              refine lv_bipush (v := (-102)) hx hb d_X_rule_59 (by decide) ?_
              refine W.widen (k := 1 + alC c n) (n := 7 + alS c n) (by show 0 ≤ 1 + alC c n; omega) (by show 0 ≤ 7 + alS c n; omega) ?_
              exact mm_iret (v := (-102)) E hr hlk eQ hZ d_X_rule_61 ⟨_, rfl, Or.inl ⟨fun z => absurd z.2.2.2.2 c56, rfl, rfl⟩⟩
        · refine lv_iload_n hx hb d_X_rule_33 rfl (lv_at hl 3 rfl) ?_
          refine mm_calli (mm_runS (As := [.int sv]) (rest := []) E hZ hml hl.1 lk_X_59 me_X_isService st_X_isService (c_X_isService l g M0 sv) ⟨Nat.le_of_ble_eq_true rfl, Nat.le_of_ble_eq_true rfl⟩ rfl (Nat.le_of_ble_eq_true rfl) d_X_rule_34 ⟨by show 0 + 0 ≤ 1 + alC c n; omega, by show 0 + 0 ≤ 7 + alS c n; omega⟩) hZ (fun r2 M1 H locs hp hZ => ?_)
          rw [hp.1] at hZ
          replace hp := hp.2
          refine lv_if_ne (tgt := 43) hx hb d_X_rule_37 (by decide) (fun c37 => ?_) (fun c37 => ?_)
          · have hsv : sv = (-1) ∨ (0 ≤ sv ∧ sv < 5) := Or.inr (b32_ne0 (hp ▸ c37))
            refine lv_lload hx hb d_X_rule_43 (lv_at hl 4 rfl) ?_
            refine lv_lconst (v := 0) hx hb d_X_rule_45 (by decide) ?_
            refine W.lcmp hx hb d_X_rule_46 ?_
            refine lv_if_lt (tgt := 59) hx hb d_X_rule_47 (by decide) (fun c47 => ?_) (fun c47 => ?_)
            · have c47 := (lg_cmp_lt _ _).mp c47
              refine lv_bipush (v := (-102)) hx hb d_X_rule_59 (by decide) ?_
              refine W.widen (k := 1 + alC c n) (n := 7 + alS c n) (by show 0 + 0 ≤ 1 + alC c n; omega) (by show 0 + 0 ≤ 7 + alS c n; omega) ?_
              exact mm_iret (v := (-102)) E hr hlk eQ hZ d_X_rule_61 ⟨_, rfl, Or.inl ⟨fun z => absurd z.2.2.2.1 (Int64.not_le.mpr c47), rfl, rfl⟩⟩
            · have c47 := mt (lg_cmp_lt _ _).mpr c47
              refine lv_lload hx hb d_X_rule_50 (lv_at hl 4 rfl) ?_
              refine lv_ldc2 (v := 10000000) hx hb E.2.2.1 (E.2.2.2.1 _ w_199) d_X_rule_52 ?_
              refine W.lcmp hx hb d_X_rule_55 ?_
              refine lv_if_le (tgt := 62) hx hb d_X_rule_56 (by decide) (fun c56 => ?_) (fun c56 => ?_)
              · have c56 := (lg_cmp_le _ _).mp c56
                refine lv_aload_n hx hb d_X_rule_62 rfl (lv_at hl 0 rfl) ?_
                refine mm_get E hZ cl_X fl_X_10 (by decide) hox rfl d_X_rule_63 ?_
                refine lv_iload_n hx hb d_X_rule_66 rfl (lv_at hl 1 rfl) ?_
                refine lv_iload_n hx hb d_X_rule_67 rfl (lv_at hl 2 rfl) ?_
                refine lv_iload_n hx hb d_X_rule_68 rfl (lv_at hl 3 rfl) ?_
                refine lv_lload hx hb d_X_rule_69 (lv_at hl 4 rfl) ?_
                refine lv_iload hx hb d_X_rule_71 (lv_at hl 5 rfl) ?_
                refine mm_calli (mm_runV (As := [.int st, .int pl, .int sv, .long wi, .int fl]) (rest := []) E hZ hml hl.1 lk_X_64 me_RowL_addRow in_RowL_addRow (c_RowL_addRow l g h0 hn19 hrow st pl sv wi hfl) h0.1 cl_RowL.1 ⟨Nat.le_of_ble_eq_true rfl, Nat.le_of_ble_eq_true rfl⟩ rfl (Nat.le_of_ble_eq_true rfl) d_X_rule_73 ⟨by show 0 + 0 + (1 + alC c n) ≤ 1 + alC c n; omega, by show 0 + 0 + (7 + alS c n) ≤ 7 + alS c n; omega⟩) hZ (fun r3 Mx H locs hp hZ => ?_)
                refine W.widen (k := 1 + alC c n) (n := 7 + alS c n) (by show 0 + 0 + (1 + alC c n) ≤ 1 + alC c n; omega) (by show 0 + 0 + (7 + alS c n) ≤ 7 + alS c n; omega) ?_
                exact mm_iret (v := r3) E hr hlk eQ hZ d_X_rule_76 ⟨_, rfl, Or.inr ⟨⟨⟨Int32.not_lt.mp c1, c7⟩, hpl, hsv, Int64.not_lt.mp c47, c56⟩, hp⟩⟩
              · have c56 := mt (lg_cmp_le _ _).mpr c56
                refine lv_bipush (v := (-102)) hx hb d_X_rule_59 (by decide) ?_
                refine W.widen (k := 1 + alC c n) (n := 7 + alS c n) (by show 0 + 0 ≤ 1 + alC c n; omega) (by show 0 + 0 ≤ 7 + alS c n; omega) ?_
                exact mm_iret (v := (-102)) E hr hlk eQ hZ d_X_rule_61 ⟨_, rfl, Or.inl ⟨fun z => absurd z.2.2.2.2 c56, rfl, rfl⟩⟩
          · refine lv_bipush (v := (-102)) hx hb d_X_rule_40 (by decide) ?_
            refine W.widen (k := 1 + alC c n) (n := 7 + alS c n) (by show 0 + 0 ≤ 1 + alC c n; omega) (by show 0 + 0 ≤ 7 + alS c n; omega) ?_
            exact mm_iret (v := (-102)) E hr hlk eQ hZ d_X_rule_42 ⟨_, rfl, Or.inl ⟨fun z => z.2.2.1.elim c30 (b32_eq0.mp (hp ▸ c37)), rfl, rfl⟩⟩
      · refine lv_iload_n hx hb d_X_rule_18 rfl (lv_at hl 2 rfl) ?_
        refine mm_calli (mm_runS (As := [.int pl]) (rest := []) E hZ hml hl.1 lk_X_55 me_X_isPlace st_X_isPlace (c_X_isPlace l g M0 pl) ⟨Nat.le_of_ble_eq_true rfl, Nat.le_of_ble_eq_true rfl⟩ rfl (Nat.le_of_ble_eq_true rfl) d_X_rule_19 ⟨by show 0 + 0 ≤ 1 + alC c n; omega, by show 0 + 0 ≤ 7 + alS c n; omega⟩) hZ (fun r4 M1 H locs hp hZ => ?_)
        rw [hp.1] at hZ
        replace hp := hp.2
        refine lv_if_ne (tgt := 28) hx hb d_X_rule_22 (by decide) (fun c22 => ?_) (fun c22 => ?_)
        · have hpl : pl = (-1) ∨ (0 ≤ pl ∧ pl < 50) := Or.inr (b32_ne0 (hp ▸ c22))
          refine lv_iload_n hx hb d_X_rule_28 rfl (lv_at hl 3 rfl) ?_
          refine lv_iconst (v := (-1)) hx hb d_X_rule_29 (by decide) ?_
          refine lv_icmp_eq (tgt := 43) hx hb d_X_rule_30 (by decide) (fun c30 => ?_) (fun c30 => ?_)
          · have hsv : sv = (-1) ∨ (0 ≤ sv ∧ sv < 5) := Or.inl c30
            refine lv_lload hx hb d_X_rule_43 (lv_at hl 4 rfl) ?_
            refine lv_lconst (v := 0) hx hb d_X_rule_45 (by decide) ?_
            refine W.lcmp hx hb d_X_rule_46 ?_
            refine lv_if_lt (tgt := 59) hx hb d_X_rule_47 (by decide) (fun c47 => ?_) (fun c47 => ?_)
            · have c47 := (lg_cmp_lt _ _).mp c47
              refine lv_bipush (v := (-102)) hx hb d_X_rule_59 (by decide) ?_
              refine W.widen (k := 1 + alC c n) (n := 7 + alS c n) (by show 0 + 0 ≤ 1 + alC c n; omega) (by show 0 + 0 ≤ 7 + alS c n; omega) ?_
              exact mm_iret (v := (-102)) E hr hlk eQ hZ d_X_rule_61 ⟨_, rfl, Or.inl ⟨fun z => absurd z.2.2.2.1 (Int64.not_le.mpr c47), rfl, rfl⟩⟩
            · have c47 := mt (lg_cmp_lt _ _).mpr c47
              refine lv_lload hx hb d_X_rule_50 (lv_at hl 4 rfl) ?_
              refine lv_ldc2 (v := 10000000) hx hb E.2.2.1 (E.2.2.2.1 _ w_199) d_X_rule_52 ?_
              refine W.lcmp hx hb d_X_rule_55 ?_
              refine lv_if_le (tgt := 62) hx hb d_X_rule_56 (by decide) (fun c56 => ?_) (fun c56 => ?_)
              · have c56 := (lg_cmp_le _ _).mp c56
                refine lv_aload_n hx hb d_X_rule_62 rfl (lv_at hl 0 rfl) ?_
                refine mm_get E hZ cl_X fl_X_10 (by decide) hox rfl d_X_rule_63 ?_
                refine lv_iload_n hx hb d_X_rule_66 rfl (lv_at hl 1 rfl) ?_
                refine lv_iload_n hx hb d_X_rule_67 rfl (lv_at hl 2 rfl) ?_
                refine lv_iload_n hx hb d_X_rule_68 rfl (lv_at hl 3 rfl) ?_
                refine lv_lload hx hb d_X_rule_69 (lv_at hl 4 rfl) ?_
                refine lv_iload hx hb d_X_rule_71 (lv_at hl 5 rfl) ?_
                refine mm_calli (mm_runV (As := [.int st, .int pl, .int sv, .long wi, .int fl]) (rest := []) E hZ hml hl.1 lk_X_64 me_RowL_addRow in_RowL_addRow (c_RowL_addRow l g h0 hn19 hrow st pl sv wi hfl) h0.1 cl_RowL.1 ⟨Nat.le_of_ble_eq_true rfl, Nat.le_of_ble_eq_true rfl⟩ rfl (Nat.le_of_ble_eq_true rfl) d_X_rule_73 ⟨by show 0 + 0 + (1 + alC c n) ≤ 1 + alC c n; omega, by show 0 + 0 + (7 + alS c n) ≤ 7 + alS c n; omega⟩) hZ (fun r5 Mx H locs hp hZ => ?_)
                refine W.widen (k := 1 + alC c n) (n := 7 + alS c n) (by show 0 + 0 + (1 + alC c n) ≤ 1 + alC c n; omega) (by show 0 + 0 + (7 + alS c n) ≤ 7 + alS c n; omega) ?_
                exact mm_iret (v := r5) E hr hlk eQ hZ d_X_rule_76 ⟨_, rfl, Or.inr ⟨⟨⟨Int32.not_lt.mp c1, c7⟩, hpl, hsv, Int64.not_lt.mp c47, c56⟩, hp⟩⟩
              · have c56 := mt (lg_cmp_le _ _).mpr c56
                refine lv_bipush (v := (-102)) hx hb d_X_rule_59 (by decide) ?_
                refine W.widen (k := 1 + alC c n) (n := 7 + alS c n) (by show 0 + 0 ≤ 1 + alC c n; omega) (by show 0 + 0 ≤ 7 + alS c n; omega) ?_
                exact mm_iret (v := (-102)) E hr hlk eQ hZ d_X_rule_61 ⟨_, rfl, Or.inl ⟨fun z => absurd z.2.2.2.2 c56, rfl, rfl⟩⟩
          · refine lv_iload_n hx hb d_X_rule_33 rfl (lv_at hl 3 rfl) ?_
            refine mm_calli (mm_runS (As := [.int sv]) (rest := []) E hZ hml hl.1 lk_X_59 me_X_isService st_X_isService (c_X_isService l g M0 sv) ⟨Nat.le_of_ble_eq_true rfl, Nat.le_of_ble_eq_true rfl⟩ rfl (Nat.le_of_ble_eq_true rfl) d_X_rule_34 ⟨by show 0 + 0 + 0 ≤ 1 + alC c n; omega, by show 0 + 0 + 0 ≤ 7 + alS c n; omega⟩) hZ (fun r6 M1 H locs hp hZ => ?_)
            rw [hp.1] at hZ
            replace hp := hp.2
            refine lv_if_ne (tgt := 43) hx hb d_X_rule_37 (by decide) (fun c37 => ?_) (fun c37 => ?_)
            · have hsv : sv = (-1) ∨ (0 ≤ sv ∧ sv < 5) := Or.inr (b32_ne0 (hp ▸ c37))
              refine lv_lload hx hb d_X_rule_43 (lv_at hl 4 rfl) ?_
              refine lv_lconst (v := 0) hx hb d_X_rule_45 (by decide) ?_
              refine W.lcmp hx hb d_X_rule_46 ?_
              refine lv_if_lt (tgt := 59) hx hb d_X_rule_47 (by decide) (fun c47 => ?_) (fun c47 => ?_)
              · have c47 := (lg_cmp_lt _ _).mp c47
                refine lv_bipush (v := (-102)) hx hb d_X_rule_59 (by decide) ?_
                refine W.widen (k := 1 + alC c n) (n := 7 + alS c n) (by show 0 + 0 + 0 ≤ 1 + alC c n; omega) (by show 0 + 0 + 0 ≤ 7 + alS c n; omega) ?_
                exact mm_iret (v := (-102)) E hr hlk eQ hZ d_X_rule_61 ⟨_, rfl, Or.inl ⟨fun z => absurd z.2.2.2.1 (Int64.not_le.mpr c47), rfl, rfl⟩⟩
              · have c47 := mt (lg_cmp_lt _ _).mpr c47
                refine lv_lload hx hb d_X_rule_50 (lv_at hl 4 rfl) ?_
                refine lv_ldc2 (v := 10000000) hx hb E.2.2.1 (E.2.2.2.1 _ w_199) d_X_rule_52 ?_
                refine W.lcmp hx hb d_X_rule_55 ?_
                refine lv_if_le (tgt := 62) hx hb d_X_rule_56 (by decide) (fun c56 => ?_) (fun c56 => ?_)
                · have c56 := (lg_cmp_le _ _).mp c56
                  refine lv_aload_n hx hb d_X_rule_62 rfl (lv_at hl 0 rfl) ?_
                  refine mm_get E hZ cl_X fl_X_10 (by decide) hox rfl d_X_rule_63 ?_
                  refine lv_iload_n hx hb d_X_rule_66 rfl (lv_at hl 1 rfl) ?_
                  refine lv_iload_n hx hb d_X_rule_67 rfl (lv_at hl 2 rfl) ?_
                  refine lv_iload_n hx hb d_X_rule_68 rfl (lv_at hl 3 rfl) ?_
                  refine lv_lload hx hb d_X_rule_69 (lv_at hl 4 rfl) ?_
                  refine lv_iload hx hb d_X_rule_71 (lv_at hl 5 rfl) ?_
                  refine mm_calli (mm_runV (As := [.int st, .int pl, .int sv, .long wi, .int fl]) (rest := []) E hZ hml hl.1 lk_X_64 me_RowL_addRow in_RowL_addRow (c_RowL_addRow l g h0 hn19 hrow st pl sv wi hfl) h0.1 cl_RowL.1 ⟨Nat.le_of_ble_eq_true rfl, Nat.le_of_ble_eq_true rfl⟩ rfl (Nat.le_of_ble_eq_true rfl) d_X_rule_73 ⟨by show 0 + 0 + 0 + (1 + alC c n) ≤ 1 + alC c n; omega, by show 0 + 0 + 0 + (7 + alS c n) ≤ 7 + alS c n; omega⟩) hZ (fun r7 Mx H locs hp hZ => ?_)
                  refine W.widen (k := 1 + alC c n) (n := 7 + alS c n) (by show 0 + 0 + 0 + (1 + alC c n) ≤ 1 + alC c n; omega) (by show 0 + 0 + 0 + (7 + alS c n) ≤ 7 + alS c n; omega) ?_
                  exact mm_iret (v := r7) E hr hlk eQ hZ d_X_rule_76 ⟨_, rfl, Or.inr ⟨⟨⟨Int32.not_lt.mp c1, c7⟩, hpl, hsv, Int64.not_lt.mp c47, c56⟩, hp⟩⟩
                · have c56 := mt (lg_cmp_le _ _).mpr c56
                  refine lv_bipush (v := (-102)) hx hb d_X_rule_59 (by decide) ?_
                  refine W.widen (k := 1 + alC c n) (n := 7 + alS c n) (by show 0 + 0 + 0 ≤ 1 + alC c n; omega) (by show 0 + 0 + 0 ≤ 7 + alS c n; omega) ?_
                  exact mm_iret (v := (-102)) E hr hlk eQ hZ d_X_rule_61 ⟨_, rfl, Or.inl ⟨fun z => absurd z.2.2.2.2 c56, rfl, rfl⟩⟩
            · refine lv_bipush (v := (-102)) hx hb d_X_rule_40 (by decide) ?_
              refine W.widen (k := 1 + alC c n) (n := 7 + alS c n) (by show 0 + 0 + 0 ≤ 1 + alC c n; omega) (by show 0 + 0 + 0 ≤ 7 + alS c n; omega) ?_
              exact mm_iret (v := (-102)) E hr hlk eQ hZ d_X_rule_42 ⟨_, rfl, Or.inl ⟨fun z => z.2.2.1.elim c30 (b32_eq0.mp (hp ▸ c37)), rfl, rfl⟩⟩
        · refine lv_bipush (v := (-102)) hx hb d_X_rule_25 (by decide) ?_
          refine W.widen (k := 1 + alC c n) (n := 7 + alS c n) (by show 0 + 0 ≤ 1 + alC c n; omega) (by show 0 + 0 ≤ 7 + alS c n; omega) ?_
          exact mm_iret (v := (-102)) E hr hlk eQ hZ d_X_rule_27 ⟨_, rfl, Or.inl ⟨fun z => z.2.1.elim c15 (b32_eq0.mp (hp ▸ c22)), rfl, rfl⟩⟩
    · refine lv_bipush (v := (-102)) hx hb d_X_rule_10 (by decide) ?_
      refine W.widen (k := 1 + alC c n) (n := 7 + alS c n) (by show 0 ≤ 1 + alC c n; omega) (by show 0 ≤ 7 + alS c n; omega) ?_
      exact mm_iret (v := (-102)) E hr hlk eQ hZ d_X_rule_12 ⟨_, rfl, Or.inl ⟨fun z => absurd z.1.2 c7, rfl, rfl⟩⟩
set_option maxHeartbeats 4000000 in
set_option maxRecDepth 100000 in
theorem c_X_state (l : Launch) (g : mm_G) {M0 : mm_M} {x rl yl tl cn dl ia : Nat} {ck : Int64} (hox : M0 x = some (xob rl yl tl cn dl ia ck)) {fa : Nat → Nat} {v : Nat → itS} (hI : It g M0 ia fa v) (i : Int32) : Ci l g y_X_state b_X_state 2 .int (rk 1 20 0 0) M0 [.ref x, .int i] (fun r M' => M' = M0 ∧ (((∀ j, j < 200 → i ≠ nI j) ∧ r = (-101)) ∨ ∃ j, j < 200 ∧ i = nI j ∧ r = if ¬ (v j).2.2.2.2.2.2.2 = 0 then (v j).1 + 200 else if ¬ (v j).2.2.2.2.2.2.1 = 0 then (v j).1 + 100 else (v j).1)) := by
  refine mm_enter (by decide) (Nat.le_of_ble_eq_true rfl) (fun pG eV s m args below meth cdx ls Q E hml hr hlk hnm hZ hl eQ => ?_)
  have hx := E.1
  have hb := E.2.1
  have hl : lv_has ls 2 [(0, .ref x), (1, .int i)] := hl
  obtain ⟨⟨f, hia, hf⟩, hit, hinj⟩ := hI
  refine lv_iload_n hx hb d_X_state_0 rfl (lv_at hl 1 rfl) ?_
  refine mm_calli (mm_runS (As := [.int i]) (rest := []) E hZ hml hl.1 lk_X_68 me_X_isItem st_X_isItem (c_X_isItem l g M0 i) ⟨Nat.le_of_ble_eq_true rfl, Nat.le_of_ble_eq_true rfl⟩ rfl (Nat.le_of_ble_eq_true rfl) d_X_state_1 ⟨Nat.le_of_ble_eq_true rfl, Nat.le_of_ble_eq_true rfl⟩) hZ (fun r1 M1 H locs hp hZ => ?_)
  rw [hp.1] at hZ
  replace hp := hp.2
  refine lv_if_ne (tgt := 10) hx hb d_X_state_4 (by decide) (fun c4 => ?_) (fun c4 => ?_)
  · obtain ⟨j, hj, rfl⟩ := in_it (b32_ne0 (hp ▸ c4))
    refine lv_aload_n hx hb d_X_state_10 rfl (lv_at hl 0 rfl) ?_
    refine mm_get E hZ cl_X fl_X_46 (by decide) hox rfl d_X_state_11 ?_
    refine lv_iload_n hx hb d_X_state_14 rfl (lv_at hl 1 rfl) ?_
    refine mm_aald (t0 := 3) E hZ hia rfl rfl (show j < 200 from hj) (by decide) d_X_state_15 ?_
    rw [hf j hj]
    have hej := hit j hj
    show W pG l eV (rk 1 20 0 0) s m args below meth cdx H locs 0 0 Q (F0 m 16 ls [.ref (fa j)])
    refine mm_calli (mm_runV (As := []) (rest := []) E hZ hml hl.1 lk_X_118 me_Item_toldState in_Item_toldState (c_Item_toldState l g hej) hej cl_Item.1 ⟨Nat.le_of_ble_eq_true rfl, Nat.le_of_ble_eq_true rfl⟩ rfl (Nat.le_of_ble_eq_true rfl) d_X_state_16 ⟨Nat.le_of_ble_eq_true rfl, Nat.le_of_ble_eq_true rfl⟩) hZ (fun r2 M1 H locs hp hZ => ?_)
    rw [hp.1] at hZ
    replace hp := hp.2
    exact mm_iret (v := r2) E hr hlk eQ hZ d_X_state_19 ⟨_, rfl, rfl, Or.inr ⟨j, hj, rfl, hp⟩⟩
  · refine lv_bipush (v := (-101)) hx hb d_X_state_7 (by decide) ?_
    exact mm_iret (v := (-101)) E hr hlk eQ hZ d_X_state_9 ⟨_, rfl, rfl, Or.inl ⟨fun j hj z => b32_eq0.mp (hp ▸ c4) (z ▸ it_in hj), rfl⟩⟩
set_option maxHeartbeats 4000000 in
set_option maxRecDepth 100000 in
theorem c_X_cluster (l : Launch) (g : mm_G) {M0 : mm_M} {x rl yl tl cn dl ia : Nat} {ck : Int64} (hox : M0 x = some (xob rl yl tl cn dl ia ck)) {bA lA : Nat} {fb fl : Nat → Int32} (h0 : Cn g M0 cn bA lA fb fl) (i u : Int32) : Ci l g y_X_cluster b_X_cluster 4 .int (rk 5 112 0 0) M0 [.ref x, .int i, .int u] (fun r M' => M' = M0 ∧ (((∀ j, j < 50 → ¬ (3 ≤ fl j ∧ nI (cbN fb fl j 50) = i)) ∧ r = (-1)) ∨ ∃ k, k < 50 ∧ (3 ≤ fl k ∧ nI (cbN fb fl k 50) = i) ∧ (∀ j, j < k → ¬ (3 ≤ fl j ∧ nI (cbN fb fl j 50) = i)) ∧ ((u = nI 0 ∧ r = nI k) ∨ (u = nI 1 ∧ r = fl k) ∨ (u = nI 2 ∧ r = fb k) ∨ ((∀ v, v < 3 → u ≠ nI v) ∧ r = (-1))))) := by
  refine mm_enter (by decide) (Nat.le_of_ble_eq_true rfl) (fun pG eV s m args below meth cdx ls Q E hml hr hlk hnm hZ hl eQ => ?_)
  have hx := E.1
  have hb := E.2.1
  have hl : lv_has ls 4 [(0, .ref x), (1, .int i), (2, .int u)] := hl
  refine lv_aload_n hx hb d_X_cluster_0 rfl (lv_at hl 0 rfl) ?_
  refine mm_get E hZ cl_X fl_X_33 (by decide) hox rfl d_X_cluster_1 ?_
  refine lv_iload_n hx hb d_X_cluster_4 rfl (lv_at hl 1 rfl) ?_
  refine mm_calli (mm_runV (As := [.int i]) (rest := []) E hZ hml hl.1 lk_X_165 me_Cnts_clusterPlace in_Cnts_clusterPlace (c_Cnts_clusterPlace l g h0 i) h0.1 cl_Cnts.1 ⟨Nat.le_of_ble_eq_true rfl, Nat.le_of_ble_eq_true rfl⟩ rfl (Nat.le_of_ble_eq_true rfl) d_X_cluster_5 ⟨Nat.le_of_ble_eq_true rfl, Nat.le_of_ble_eq_true rfl⟩) hZ (fun rp M1 H locs hp hZ => ?_)
  rw [hp.1] at hZ
  replace hp := hp.2
  refine lv_istore_n (lv' := [(3, .int rp), (0, .ref x), (1, .int i), (2, .int u)]) hx hb d_X_cluster_8 rfl hl (by decide) rfl (fun ls hl => ?_)
  refine lv_iload_n hx hb d_X_cluster_9 rfl (lv_at hl 0 rfl) ?_
  refine lv_iconst (v := (-1)) hx hb d_X_cluster_10 (by decide) ?_
  refine lv_icmp_ne (tgt := 16) hx hb d_X_cluster_11 (by decide) (fun c11 => ?_) (fun c11 => ?_)
  · obtain ⟨k, hk, hcl, rfl, hmin⟩ : ∃ k, k < 50 ∧ (3 ≤ fl k ∧ nI (cbN fb fl k 50) = i) ∧ rp = nI k ∧ ∀ j, j < k → ¬ (3 ≤ fl j ∧ nI (cbN fb fl j 50) = i) := by
      rcases hp with h | ⟨_, h⟩
      · exact h
      · exact absurd h c11
    refine lv_iload_n hx hb d_X_cluster_16 rfl (lv_at hl 3 rfl) ?_
    by_cases hu0 : u < 0
    · refine lv_tableOut (tgt := 64) hx hb d_X_cluster_17 (Or.inl (by have := (Int32.lt_iff_toInt_lt).mp hu0; simpa using this)) (by decide) ?_
      refine lv_iconst (v := (-1)) hx hb d_X_cluster_64 (by decide) ?_
      exact mm_iret (v := (-1)) E hr hlk eQ hZ d_X_cluster_65 ⟨_, rfl, rfl, Or.inr ⟨k, hk, hcl, hmin, Or.inr (Or.inr (Or.inr ⟨fun v hv => i_neg_of hu0 v (by omega), rfl⟩))⟩⟩
    · obtain ⟨v, hv31, rfl⟩ := i_nat hu0
      rcases (show v = 0 ∨ v = 1 ∨ v = 2 ∨ 2 < v by omega) with rfl | rfl | rfl | hv4
      · refine lv_tableIn (off := 27) (tgt := 44) hx hb d_X_cluster_17 (by decide) (by decide) (by decide) (by decide) ?_
        refine lv_iload_n hx hb d_X_cluster_44 rfl (lv_at hl 0 rfl) ?_
        exact mm_iret (v := nI k) E hr hlk eQ hZ d_X_cluster_45 ⟨_, rfl, rfl, Or.inr ⟨k, hk, hcl, hmin, Or.inl ⟨rfl, rfl⟩⟩⟩
      · refine lv_tableIn (off := 29) (tgt := 46) hx hb d_X_cluster_17 (by decide) (by decide) (by decide) (by decide) ?_
        refine lv_aload_n hx hb d_X_cluster_46 rfl (lv_at hl 1 rfl) ?_
        refine mm_get E hZ cl_X fl_X_33 (by decide) hox rfl d_X_cluster_47 ?_
        refine lv_iload_n hx hb d_X_cluster_50 rfl (lv_at hl 0 rfl) ?_
        refine mm_calli (mm_runV (As := [.int (nI k)]) (rest := []) E hZ hml hl.1 lk_X_130 me_Cnts_lateAt in_Cnts_lateAt (c_Cnts_lateAt l g h0 hk) h0.1 cl_Cnts.1 ⟨Nat.le_of_ble_eq_true rfl, Nat.le_of_ble_eq_true rfl⟩ rfl (Nat.le_of_ble_eq_true rfl) d_X_cluster_51 ⟨Nat.le_of_ble_eq_true rfl, Nat.le_of_ble_eq_true rfl⟩) hZ (fun r1 M1 H locs hp hZ => ?_)
        rw [hp.1] at hZ
        have hp2 := hp.2
        exact mm_iret (v := r1) E hr hlk eQ hZ d_X_cluster_54 ⟨_, rfl, rfl, Or.inr ⟨k, hk, hcl, hmin, Or.inr (Or.inl ⟨rfl, hp2⟩)⟩⟩
      · refine lv_tableIn (off := 38) (tgt := 55) hx hb d_X_cluster_17 (by decide) (by decide) (by decide) (by decide) ?_
        refine lv_aload_n hx hb d_X_cluster_55 rfl (lv_at hl 1 rfl) ?_
        refine mm_get E hZ cl_X fl_X_33 (by decide) hox rfl d_X_cluster_56 ?_
        refine lv_iload_n hx hb d_X_cluster_59 rfl (lv_at hl 0 rfl) ?_
        refine mm_calli (mm_runV (As := [.int (nI k)]) (rest := []) E hZ hml hl.1 lk_X_134 me_Cnts_begunAt in_Cnts_begunAt (c_Cnts_begunAt l g h0 hk) h0.1 cl_Cnts.1 ⟨Nat.le_of_ble_eq_true rfl, Nat.le_of_ble_eq_true rfl⟩ rfl (Nat.le_of_ble_eq_true rfl) d_X_cluster_60 ⟨Nat.le_of_ble_eq_true rfl, Nat.le_of_ble_eq_true rfl⟩) hZ (fun r2 M1 H locs hp hZ => ?_)
        rw [hp.1] at hZ
        have hp2 := hp.2
        exact mm_iret (v := r2) E hr hlk eQ hZ d_X_cluster_63 ⟨_, rfl, rfl, Or.inr ⟨k, hk, hcl, hmin, Or.inr (Or.inr (Or.inl ⟨rfl, hp2⟩))⟩⟩
      · refine lv_tableOut (tgt := 64) hx hb d_X_cluster_17 (Or.inr (by rw [nI_toInt hv31]; omega)) (by decide) ?_
        refine lv_iconst (v := (-1)) hx hb d_X_cluster_64 (by decide) ?_
        exact mm_iret (v := (-1)) E hr hlk eQ hZ d_X_cluster_65 ⟨_, rfl, rfl, Or.inr ⟨k, hk, hcl, hmin, Or.inr (Or.inr (Or.inr ⟨fun v2 hv2 hh => by have := (nI_eq hv31 (by omega)).mp hh; omega, rfl⟩))⟩⟩
  · have hno : ∀ j, j < 50 → ¬ (3 ≤ fl j ∧ nI (cbN fb fl j 50) = i) := by
      rcases hp with ⟨k, hk, _, h, _⟩ | ⟨h, _⟩
      · rw [h] at c11; exact absurd c11 (by intro z; exact absurd (show nI k < 0 by rw [z]; decide) (nI_pos (by omega)))
      · exact h
    refine lv_iconst (v := (-1)) hx hb d_X_cluster_14 (by decide) ?_
    exact mm_iret (v := (-1)) E hr hlk eQ hZ d_X_cluster_15 ⟨_, rfl, rfl, Or.inl ⟨hno, rfl⟩⟩
