/-! JAVA's ArrayList: add(Object) -/
theorem elOk_up {M : mm_M} {la t ci0 : Nat} {vs0 : List Value} {c : Nat} {ad : Nat → Nat} (h : elOk M c ad) (hla : M la = some (ob t ci0 vs0)) (vs1 : List Value) : elOk (mm_up M la (ob t ci0 vs1)) c ad := by
  intro i hi
  obtain ⟨tv, ci, vs, r, h1, h2, h3⟩ := h i hi
  by_cases e : ad i = la
  · have h1' : M la = some (ob tv ci vs) := e ▸ h1
    rw [hla] at h1'
    cases h1'
    exact ⟨t, ci0, vs1, r, by rw [e]; exact mm_self _ _ _, h2, h3⟩
  · exact ⟨tv, ci, vs, r, (mm_ne _ _ e).trans h1, h2, h3⟩
/-- what an add makes: cells, slots, and the list's room behind it -/
def alC (c n : Nat) : Nat := if c < n then 0 else 1
def alS (c n : Nat) : Nat := if c < n then 0 else alN n
def alM (c n : Nat) : Nat := if c < n then n else alN n
set_option maxHeartbeats 4000000 in
set_option maxRecDepth 100000 in
theorem c_AL_add1r (l : Launch) (g : mm_G) {M0 : mm_M} {t la c n ea : Nat} {mo : Int32} {ad : Nat → Nat} {f : Nat → Option Nat} (ht : t ≠ 0) (hla : M0 la = some (ob t 10 [.int mo, .ref ea, .int (nI c)])) (hcn : c < n) (hn10 : 10 ≤ n) (hn20 : n < 2 ^ 20) (hea : M0 ea = some (aq t (g.2.2 4) n f)) (hf : ∀ i, i < c → f i = some (ad i)) (hfn : ∀ i, c ≤ i → f i = none) {tv ci v : Nat} {vs : List Value} {rc : vw_C} (hv : M0 v = some (ob tv ci vs)) (hrc : classes[ci]? = some rc) (hca : Cond.castable rc.1 "java/lang/Object" ∈ NW) (htv : tv ≠ t) : Ci l g y_AL_add1 b_AL_add1 2 .boolean (rk 6 150 0 0) M0 [.ref la, .ref v] (fun r M' => r = 1 ∧ Al g M' t la (c + 1) n (va_up ad c v) ∧ ∀ u, u ≠ t → mm_same u M0 M') := by
  refine mm_enter (by decide) (Nat.le_of_ble_eq_true rfl) (fun pG eV s m args below meth cdx ls Q E hml hr hlk hnm hZ hl eQ => ?_)
  have hx := E.1
  have hb := E.2.1
  have hl : lv_has ls 2 [(0, .ref la), (1, .ref v)] := hl
  refine lv_aload_n hx hb d_AL_add1_0 rfl (lv_at hl 0 rfl) ?_
  refine lv_dup hx hb d_AL_add1_1 rfl ?_
  refine mm_get E hZ cl_AL fl_AL_63 (by decide) hla rfl d_AL_add1_2 ?_
  refine lv_iconst (v := 1) hx hb d_AL_add1_5 (by decide) ?_
  refine lv_iadd hx hb d_AL_add1_6 ?_
  refine mm_put E hZ cl_AL fl_AL_63 (by decide) rfl hla ht rfl rfl (Nat.le_of_ble_eq_true rfl) d_AL_add1_7 (fun H locs hZ => ?_)
  obtain ⟨M6, eM6⟩ : ∃ zz : mm_M, zz = mm_up M0 la (ob t 10 [.int (mo + 1), .ref ea, .int (nI c)]) := ⟨_, rfl⟩
  have hZ : mm_S g s M6 H locs := by rw [eM6]; exact hZ
  have h7 := (congrFun eM6 ea).trans ((mm_ne _ _ (mm_apart hea hla (by intro x; cases x))).trans hea)
  have h8 := (congrFun eM6 v).trans ((mm_ne _ _ (mm_tag hv hla htv)).trans hv)
  have h9 := (congrFun eM6 la).trans (mm_self _ _ _)
  refine lv_aload_n hx hb d_AL_add1_10 rfl (lv_at hl 0 rfl) ?_
  refine lv_aload_n hx hb d_AL_add1_11 rfl (lv_at hl 1 rfl) ?_
  refine lv_aload_n hx hb d_AL_add1_12 rfl (lv_at hl 0 rfl) ?_
  refine mm_get E hZ cl_AL fl_AL_9 (by decide) h9 rfl d_AL_add1_13 ?_
  refine lv_aload_n hx hb d_AL_add1_16 rfl (lv_at hl 0 rfl) ?_
  refine mm_get E hZ cl_AL fl_AL_48 (by decide) h9 rfl d_AL_add1_17 ?_
  refine mm_callv (mm_runV (As := [.ref v, .ref ea, .int (nI c)]) (rest := []) E hZ hml hl.1 lk_AL_131 me_AL_add3 in_AL_add3 (c_AL_add3 l g ht h9 hcn hn20 h7 hf hfn h8 hrc hca htv) h9 cl_AL.1 ⟨Nat.le_of_ble_eq_true rfl, Nat.le_of_ble_eq_true rfl⟩ rfl (Nat.le_of_ble_eq_true rfl) d_AL_add1_20 ⟨Nat.le_of_ble_eq_true rfl, Nat.le_of_ble_eq_true rfl⟩) hZ (fun M1 H locs hp hZ => ?_)
  obtain ⟨⟨mo2, ea2, f2, q1, q2, q3, q4⟩, hs⟩ := hp
  refine lv_iconst (v := 1) hx hb d_AL_add1_23 (by decide) ?_
  exact mm_zret (v := 1) E hr hlk eQ hZ rfl d_AL_add1_24 ⟨_, rfl, rfl, ⟨mo2, ea2, q1, Or.inr ⟨hn10, hn20, hcn, f2, q2, q3, q4⟩⟩, fun u hu => mm_same.tr (by rw [eM6]; exact mm_same.up hla hu _) (hs u hu)⟩
set_option maxHeartbeats 4000000 in
set_option maxRecDepth 100000 in
theorem c_AL_add1g (l : Launch) (g : mm_G) {M0 : mm_M} {t la n ea : Nat} {mo : Int32} {ad : Nat → Nat} {f : Nat → Option Nat} (ht : t ≠ 0) (hla : M0 la = some (ob t 10 [.int mo, .ref ea, .int (nI n)])) (hn10 : 10 ≤ n) (hn20 : n < 2 ^ 19) (hea : M0 ea = some (aq t (g.2.2 4) n f)) (hf : ∀ i, i < n → f i = some (ad i)) (hfn : ∀ i, n ≤ i → f i = none) (hel : elOk M0 n ad) {tv ci v : Nat} {vs : List Value} {rc : vw_C} (hv : M0 v = some (ob tv ci vs)) (hrc : classes[ci]? = some rc) (hca : Cond.castable rc.1 "java/lang/Object" ∈ NW) (htv : tv ≠ t) : Ci l g y_AL_add1 b_AL_add1 2 .boolean (rk 6 150 1 (alN n)) M0 [.ref la, .ref v] (fun r M' => r = 1 ∧ Al g M' t la (n + 1) (alN n) (va_up ad n v) ∧ ∀ u, u ≠ t → mm_same u M0 M') := by
  refine mm_enter (by decide) (Nat.le_of_ble_eq_true rfl) (fun pG eV s m args below meth cdx ls Q E hml hr hlk hnm hZ hl eQ => ?_)
  have hx := E.1
  have hb := E.2.1
  have hl : lv_has ls 2 [(0, .ref la), (1, .ref v)] := hl
  refine lv_aload_n hx hb d_AL_add1_0 rfl (lv_at hl 0 rfl) ?_
  refine lv_dup hx hb d_AL_add1_1 rfl ?_
  refine mm_get E hZ cl_AL fl_AL_63 (by decide) hla rfl d_AL_add1_2 ?_
  refine lv_iconst (v := 1) hx hb d_AL_add1_5 (by decide) ?_
  refine lv_iadd hx hb d_AL_add1_6 ?_
  refine mm_put E hZ cl_AL fl_AL_63 (by decide) rfl hla ht rfl rfl (Nat.le_of_ble_eq_true rfl) d_AL_add1_7 (fun H locs hZ => ?_)
  obtain ⟨M6, eM6⟩ : ∃ zz : mm_M, zz = mm_up M0 la (ob t 10 [.int (mo + 1), .ref ea, .int (nI n)]) := ⟨_, rfl⟩
  have hZ : mm_S g s M6 H locs := by rw [eM6]; exact hZ
  have h7 := (congrFun eM6 ea).trans ((mm_ne _ _ (mm_apart hea hla (by intro x; cases x))).trans hea)
  have h8 := (congrFun eM6 v).trans ((mm_ne _ _ (mm_tag hv hla htv)).trans hv)
  have h9 := (congrFun eM6 la).trans (mm_self _ _ _)
  refine lv_aload_n hx hb d_AL_add1_10 rfl (lv_at hl 0 rfl) ?_
  refine lv_aload_n hx hb d_AL_add1_11 rfl (lv_at hl 1 rfl) ?_
  refine lv_aload_n hx hb d_AL_add1_12 rfl (lv_at hl 0 rfl) ?_
  refine mm_get E hZ cl_AL fl_AL_9 (by decide) h9 rfl d_AL_add1_13 ?_
  refine lv_aload_n hx hb d_AL_add1_16 rfl (lv_at hl 0 rfl) ?_
  refine mm_get E hZ cl_AL fl_AL_48 (by decide) h9 rfl d_AL_add1_17 ?_
  have hel1 := elOk_up hel hla [.int (mo + 1), .ref ea, .int (nI n)]
  rw [← eM6] at hel1
  refine mm_callv (mm_runV (As := [.ref v, .ref ea, .int (nI n)]) (rest := []) E hZ hml hl.1 lk_AL_131 me_AL_add3 in_AL_add3 (c_AL_add3g l g ht h9 hn10 (by omega) h7 hf hfn hel1 h8 hrc hca htv) h9 cl_AL.1 ⟨Nat.le_of_ble_eq_true rfl, Nat.le_of_ble_eq_true rfl⟩ rfl (Nat.le_of_ble_eq_true rfl) d_AL_add1_20 ⟨Nat.le_of_ble_eq_true rfl, by show 0 + alN n ≤ alN n; omega⟩) hZ (fun M1 H locs hp hZ => ?_)
  obtain ⟨⟨mo2, ea2, f2, q1, q2, q3, q4⟩, hs⟩ := hp
  refine lv_iconst (v := 1) hx hb d_AL_add1_23 (by decide) ?_
  refine W.widen (k := 1) (n := alN n) (Nat.le_of_ble_eq_true rfl) (by show 0 + alN n ≤ alN n; omega) ?_
  exact mm_zret (v := 1) E hr hlk eQ hZ rfl d_AL_add1_24 ⟨_, rfl, rfl, ⟨mo2, ea2, q1, Or.inr ⟨by rw [alN_pos hn10]; omega, by rw [alN_pos hn10]; omega, by rw [alN_pos hn10]; omega, f2, q2, q3, q4⟩⟩, fun u hu => mm_same.tr (by rw [eM6]; exact mm_same.up hla hu _) (hs u hu)⟩
set_option maxHeartbeats 4000000 in
set_option maxRecDepth 100000 in
theorem c_AL_add1z (l : Launch) (g : mm_G) {M0 : mm_M} {t la : Nat} {mo : Int32} (ad : Nat → Nat) (ht : t ≠ 0) (hla : M0 la = some (ob t 10 [.int mo, .ref (g_df g), .int (nI 0)])) {tv ci v : Nat} {vs : List Value} {rc : vw_C} (hv : M0 v = some (ob tv ci vs)) (hrc : classes[ci]? = some rc) (hca : Cond.castable rc.1 "java/lang/Object" ∈ NW) (htv : tv ≠ t) : Ci l g y_AL_add1 b_AL_add1 2 .boolean (rk 6 150 1 (alN 0)) M0 [.ref la, .ref v] (fun r M' => r = 1 ∧ Al g M' t la (0 + 1) (alN 0) (va_up ad 0 v) ∧ ∀ u, u ≠ t → mm_same u M0 M') := by
  refine mm_enter (by decide) (Nat.le_of_ble_eq_true rfl) (fun pG eV s m args below meth cdx ls Q E hml hr hlk hnm hZ hl eQ => ?_)
  have hx := E.1
  have hb := E.2.1
  have hl : lv_has ls 2 [(0, .ref la), (1, .ref v)] := hl
  refine lv_aload_n hx hb d_AL_add1_0 rfl (lv_at hl 0 rfl) ?_
  refine lv_dup hx hb d_AL_add1_1 rfl ?_
  refine mm_get E hZ cl_AL fl_AL_63 (by decide) hla rfl d_AL_add1_2 ?_
  refine lv_iconst (v := 1) hx hb d_AL_add1_5 (by decide) ?_
  refine lv_iadd hx hb d_AL_add1_6 ?_
  refine mm_put E hZ cl_AL fl_AL_63 (by decide) rfl hla ht rfl rfl (Nat.le_of_ble_eq_true rfl) d_AL_add1_7 (fun H locs hZ => ?_)
  obtain ⟨M6, eM6⟩ : ∃ zz : mm_M, zz = mm_up M0 la (ob t 10 [.int (mo + 1), .ref (g_df g), .int (nI 0)]) := ⟨_, rfl⟩
  have hZ : mm_S g s M6 H locs := by rw [eM6]; exact hZ
  have h7 := (congrFun eM6 v).trans ((mm_ne _ _ (mm_tag hv hla htv)).trans hv)
  have h8 := (congrFun eM6 la).trans (mm_self _ _ _)
  refine lv_aload_n hx hb d_AL_add1_10 rfl (lv_at hl 0 rfl) ?_
  refine lv_aload_n hx hb d_AL_add1_11 rfl (lv_at hl 1 rfl) ?_
  refine lv_aload_n hx hb d_AL_add1_12 rfl (lv_at hl 0 rfl) ?_
  refine mm_get E hZ cl_AL fl_AL_9 (by decide) h8 rfl d_AL_add1_13 ?_
  refine lv_aload_n hx hb d_AL_add1_16 rfl (lv_at hl 0 rfl) ?_
  refine mm_get E hZ cl_AL fl_AL_48 (by decide) h8 rfl d_AL_add1_17 ?_
  refine mm_callv (mm_runV (As := [.ref v, .ref (g_df g), .int (nI 0)]) (rest := []) E hZ hml hl.1 lk_AL_131 me_AL_add3 in_AL_add3 (c_AL_add3z l g (ad := ad) ht h8 h7 hrc hca htv) h8 cl_AL.1 ⟨Nat.le_of_ble_eq_true rfl, Nat.le_of_ble_eq_true rfl⟩ rfl (Nat.le_of_ble_eq_true rfl) d_AL_add1_20 ⟨Nat.le_of_ble_eq_true rfl, by show 0 + alN 0 ≤ alN 0; omega⟩) hZ (fun M1 H locs hp hZ => ?_)
  obtain ⟨⟨mo2, ea2, f2, q1, q2, q3, q4⟩, hs⟩ := hp
  refine lv_iconst (v := 1) hx hb d_AL_add1_23 (by decide) ?_
  refine W.widen (k := 1) (n := alN 0) (Nat.le_of_ble_eq_true rfl) (by show 0 + alN 0 ≤ alN 0; omega) ?_
  exact mm_zret (v := 1) E hr hlk eQ hZ rfl d_AL_add1_24 ⟨_, rfl, rfl, ⟨mo2, ea2, q1, Or.inr ⟨by decide, by decide, by decide, f2, q2, q3, q4⟩⟩, fun u hu => mm_same.tr (by rw [eM6]; exact mm_same.up hla hu _) (hs u hu)⟩
theorem c_AL_add1 (l : Launch) (g : mm_G) {M0 : mm_M} {t la c n : Nat} {ad : Nat → Nat} (ht : t ≠ 0) (h0 : Al g M0 t la c n ad) (hn19 : n < 2 ^ 19) (hel : elOk M0 c ad) {tv ci v : Nat} {vs : List Value} {rc : vw_C} (hv : M0 v = some (ob tv ci vs)) (hrc : classes[ci]? = some rc) (hca : Cond.castable rc.1 "java/lang/Object" ∈ NW) (htv : tv ≠ t) : Ci l g y_AL_add1 b_AL_add1 2 .boolean (rk 6 150 (alC c n) (alS c n)) M0 [.ref la, .ref v] (fun r M' => r = 1 ∧ Al g M' t la (c + 1) (alM c n) (va_up ad c v) ∧ ∀ u, u ≠ t → mm_same u M0 M') := by
  obtain ⟨mo, ea, hla, h⟩ := h0
  rcases h with ⟨rfl, rfl, rfl⟩ | ⟨h10, h20, hcn, f, hea, hf, hfn⟩
  · rw [show alC 0 0 = 1 from rfl, show alS 0 0 = alN 0 from rfl, show alM 0 0 = alN 0 from rfl]
    exact c_AL_add1z l g ad ht hla hv hrc hca htv
  · by_cases hlt : c < n
    · rw [show alC c n = 0 from if_pos hlt, show alS c n = 0 from if_pos hlt, show alM c n = n from if_pos hlt]
      exact c_AL_add1r l g ht hla hlt h10 h20 hea hf hfn hv hrc hca htv
    · have e : c = n := by omega
      subst e
      rw [show alC c c = 1 from if_neg hlt, show alS c c = alN c from if_neg hlt, show alM c c = alN c from if_neg hlt]
      exact c_AL_add1g l g ht hla h10 hn19 hea hf hfn hel hv hrc hca htv
