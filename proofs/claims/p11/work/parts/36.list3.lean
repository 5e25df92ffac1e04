/-! JAVA's ArrayList: grow and add -/
set_option maxHeartbeats 4000000 in
set_option maxRecDepth 100000 in
theorem c_AL_grow1 (l : Launch) (g : mm_G) {M0 : mm_M} {t la n ea : Nat} {mo : Int32} {ad : Nat → Nat} {f : Nat → Option Nat} (ht : t ≠ 0) (hla : M0 la = some (ob t 10 [.int mo, .ref ea, .int (nI n)])) (hn10 : 10 ≤ n) (hn20 : n < 2 ^ 20) (hea : M0 ea = some (aq t (g.2.2 4) n f)) (hf : ∀ i, i < n → f i = some (ad i)) (hfn : ∀ i, n ≤ i → f i = none) (hel : elOk M0 n ad) : Cq l g y_AL_grow1 b_AL_grow1 4 (.array (.object "java/lang/Object")) (rk 3 84 1 (alN n)) M0 [.ref la, .int (nI (n + 1))] (fun r M' => ∃ q, r = some q ∧ Gp g M0 M' t la n n ad mo q) := by
  refine mm_enter (by decide) (Nat.le_of_ble_eq_true rfl) (fun pG eV s m args below meth cdx ls Q E hml hr hlk hnm hZ hl eQ => ?_)
  have hx := E.1
  have hb := E.2.1
  have hl : lv_has ls 4 [(0, .ref la), (1, .int (nI (n + 1)))] := hl
  have hal := alN_pos hn10
  refine lv_aload_n hx hb d_AL_grow1_0 rfl (lv_at hl 0 rfl) ?_
  refine mm_get E hZ cl_AL fl_AL_9 (by decide) hla rfl d_AL_grow1_1 ?_
  refine mm_alen (t0 := 4) (v := nI n) E hZ hea rfl rfl d_AL_grow1_4 ?_
  refine lv_istore_n (lv' := [(2, .int (nI n)), (0, .ref la), (1, .int (nI (n + 1)))]) hx hb d_AL_grow1_5 rfl hl (by decide) rfl (fun ls hl => ?_)
  refine lv_iload_n hx hb d_AL_grow1_6 rfl (lv_at hl 0 rfl) ?_
  refine lv_if_gt (tgt := 20) hx hb d_AL_grow1_7 (by decide) (fun c7 => ?_) (fun c7 => ?_)
  · refine lv_iload_n hx hb d_AL_grow1_20 rfl (lv_at hl 0 rfl) ?_
    refine lv_iload_n hx hb d_AL_grow1_21 rfl (lv_at hl 2 rfl) ?_
    refine lv_iload_n hx hb d_AL_grow1_22 rfl (lv_at hl 0 rfl) ?_
    refine lv_isub hx hb d_AL_grow1_23 ?_
    rw [show nI (n + 1) - nI n = nI 1 by rw [pk_sub (by omega)]; congr 1; omega]
    refine lv_iload_n hx hb d_AL_grow1_24 rfl (lv_at hl 0 rfl) ?_
    refine lv_iconst (v := 1) hx hb d_AL_grow1_25 (by decide) ?_
    refine lv_ishr hx hb d_AL_grow1_26 ?_
    rw [nI_half (by omega)]
    refine mm_calli (mm_runS (As := [.int (nI n), .int (nI 1), .int (nI (n / 2))]) (rest := []) E hZ hml hl.1 lk_AL_73 me_ASup_newLength st_ASup_newLength (c_ASup_newLength l g hn10 hn20) ⟨Nat.le_of_ble_eq_true rfl, Nat.le_of_ble_eq_true rfl⟩ rfl (Nat.le_of_ble_eq_true rfl) d_AL_grow1_27 ⟨Nat.le_of_ble_eq_true rfl, Nat.le_of_ble_eq_true rfl⟩) hZ (fun r1 M1 H locs hp hZ => ?_)
    rw [hp.1] at hZ
    replace hp := hp.2
    subst hp
    refine lv_istore_n (lv' := [(3, .int (nI (n + n / 2))), (2, .int (nI n)), (0, .ref la), (1, .int (nI (n + 1)))]) hx hb d_AL_grow1_30 rfl hl (by decide) rfl (fun ls hl => ?_)
    refine lv_aload_n hx hb d_AL_grow1_31 rfl (lv_at hl 2 rfl) ?_
    refine lv_aload_n hx hb d_AL_grow1_32 rfl (lv_at hl 2 rfl) ?_
    refine mm_get E hZ cl_AL fl_AL_9 (by decide) hla rfl d_AL_grow1_33 ?_
    refine lv_iload_n hx hb d_AL_grow1_36 rfl (lv_at hl 0 rfl) ?_
    refine mm_callq (mm_runS (As := [.ref ea, .int (nI (n + n / 2))]) (rest := [.ref la]) E hZ hml hl.1 lk_AL_66 me_Arrs_copyOf2 st_Arrs_copyOf2 (c_Arrs_copyOf2 l g (N := n + n / 2) hea ht (by omega) (by omega) (fun i hi y hy => by
      rw [hf i hi] at hy
      cases hy
      exact hel i hi)) ⟨Nat.le_of_ble_eq_true rfl, Nat.le_of_ble_eq_true rfl⟩ rfl (Nat.le_of_ble_eq_true rfl) d_AL_grow1_37 ⟨Nat.le_of_ble_eq_true rfl, by show 0 + 0 + (n + n / 2) ≤ alN n; omega⟩) hZ (fun rq M1 H locs hp hZ => ?_)
    obtain ⟨q, hq, rfl, hM⟩ := hp
    have hl1 := (congrFun hM la).trans ((mm_ne _ _ (mm_apartN hla hq)).trans hla)
    have hq1 := (congrFun hM q).trans (mm_self _ _ _)
    have hs1 : ∀ u, u ≠ t → mm_same u M0 M1 := fun u hu => by rw [hM]; exact mm_same.new hq _
    refine lv_dup_x1 hx hb d_AL_grow1_40 rfl rfl ?_
    refine mm_put E hZ cl_AL fl_AL_9 (by decide) rfl hl1 ht rfl rfl (Nat.le_of_ble_eq_true rfl) d_AL_grow1_41 (fun H locs hZ => ?_)
    obtain ⟨M2, eM2⟩ : ∃ zz : mm_M, zz = mm_up M1 la (ob t 10 [.int mo, .ref q, .int (nI n)]) := ⟨_, rfl⟩
    have hZ : mm_S g s M2 H locs := by rw [eM2]; exact hZ
    have h3 := (congrFun eM2 q).trans ((mm_ne _ _ (mm_apart hq1 hl1 (by intro x; cases x))).trans hq1)
    have h4 := (congrFun eM2 la).trans (mm_self _ _ _)
    refine W.widen (k := 1) (n := alN n) (Nat.le_of_ble_eq_true rfl) (by show 0 + 0 + (n + n / 2) ≤ alN n; omega) ?_
    exact mm_aret (v := some q) E hr (Or.inr ⟨_, rfl⟩) hlk eQ hZ d_AL_grow1_44 ⟨_, rfl, q, rfl, hq, h4, ⟨_, by rw [hal]; exact h3, fun i hi => by rw [pk_cpy_in (by omega) (by omega), Nat.zero_add, Nat.sub_zero]; exact hf i hi, fun i hi => (pk_cpy_out (f := f) (g := fun _ => none) (sp := 0) (dp := 0) (n := n) (j := i) (Or.inr (by omega)))⟩, fun u hu => (hs1 u hu).tr (by rw [eM2]; exact mm_same.up hl1 hu _)⟩
  · exact absurd (show nI 0 < nI n from nI_lt (by omega) (by omega)) c7
set_option maxHeartbeats 4000000 in
set_option maxRecDepth 100000 in
theorem c_AL_grow1z (l : Launch) (g : mm_G) {M0 : mm_M} {t la : Nat} {mo : Int32} {ad : Nat → Nat} (ht : t ≠ 0) (hla : M0 la = some (ob t 10 [.int mo, .ref (g_df g), .int (nI 0)])) : Cq l g y_AL_grow1 b_AL_grow1 4 (.array (.object "java/lang/Object")) (rk 3 84 1 (alN 0)) M0 [.ref la, .int (nI 1)] (fun r M' => ∃ q, r = some q ∧ Gp g M0 M' t la 0 0 ad mo q) := by
  refine mm_enter (by decide) (Nat.le_of_ble_eq_true rfl) (fun pG eV s m args below meth cdx ls Q E hml hr hlk hnm hZ hl eQ => ?_)
  have hx := E.1
  have hb := E.2.1
  have hl : lv_has ls 4 [(0, .ref la), (1, .int (nI 1))] := hl
  refine lv_aload_n hx hb d_AL_grow1_0 rfl (lv_at hl 0 rfl) ?_
  refine mm_get E hZ cl_AL fl_AL_9 (by decide) hla rfl d_AL_grow1_1 ?_
  refine mm_dlen E hZ d_AL_grow1_4 ?_
  refine lv_istore_n (lv' := [(2, .int 0), (0, .ref la), (1, .int (nI 1))]) hx hb d_AL_grow1_5 rfl hl (by decide) rfl (fun ls hl => ?_)
  refine lv_iload_n hx hb d_AL_grow1_6 rfl (lv_at hl 0 rfl) ?_
  refine lv_if_gt (tgt := 20) hx hb d_AL_grow1_7 (by decide) (fun c7 => ?_) (fun c7 => ?_)
  · exact absurd c7 (by decide)
  · refine lv_aload_n hx hb d_AL_grow1_10 rfl (lv_at hl 1 rfl) ?_
    refine mm_get E hZ cl_AL fl_AL_9 (by decide) hla rfl d_AL_grow1_11 ?_
    refine mm_dflt E hZ w_50 d_AL_grow1_14 ?_
    refine lv_acmp_eq (rx := some (g_df g)) (ry := some (g_df g)) (tgt := 45) hx hb d_AL_grow1_17 (by decide) (fun _ => ?_) (fun z => absurd rfl z)
    refine lv_aload_n hx hb d_AL_grow1_45 rfl (lv_at hl 1 rfl) ?_
    refine lv_bipush (v := 10) hx hb d_AL_grow1_46 (by decide) ?_
    refine lv_iload_n hx hb d_AL_grow1_48 rfl (lv_at hl 2 rfl) ?_
    refine mm_max E hml hl.1 w_298 (Nat.le_of_ble_eq_true rfl) (Nat.le_of_ble_eq_true rfl) (Nat.le_of_ble_eq_true rfl) (Nat.le_of_ble_eq_true rfl) d_AL_grow1_49 ?_
    rw [if_neg (show ¬ (10 : Int32) < nI 1 by decide)]
    refine mm_newq t (t0 := 4) (cA := g.2.2 4) (N := 10) E hZ rfl w_299 E.2.2.2.2.2.2.2.1 (by decide) (by decide) (by decide) (Nat.le_of_ble_eq_true rfl) (Nat.le_of_ble_eq_true rfl) d_AL_grow1_52 (fun q H hB hq hZ => ?_)
    obtain ⟨Ma, eMa⟩ : ∃ zz : mm_M, zz = mm_up M0 q (aq t (g.2.2 4) 10 (fun _ => none)) := ⟨_, rfl⟩
    rw [← eMa] at hZ
    have hq1 := (congrFun eMa q).trans (mm_self _ _ _)
    have hl1 := (congrFun eMa la).trans ((mm_ne _ _ (mm_apartN hla hq)).trans hla)
    refine lv_dup_x1 hx hb d_AL_grow1_55 rfl rfl ?_
    refine mm_put E hZ cl_AL fl_AL_9 (by decide) rfl hl1 ht rfl rfl (Nat.le_of_ble_eq_true rfl) d_AL_grow1_56 (fun H locs hZ => ?_)
    obtain ⟨M1, eM1⟩ : ∃ zz : mm_M, zz = mm_up Ma la (ob t 10 [.int mo, .ref q, .int (nI 0)]) := ⟨_, rfl⟩
    have hZ : mm_S g s M1 H locs := by rw [eM1]; exact hZ
    have h2 := (congrFun eM1 q).trans ((mm_ne _ _ (mm_apart hq1 hl1 (by intro x; cases x))).trans hq1)
    have h3 := (congrFun eM1 la).trans (mm_self _ _ _)
    exact mm_aret (v := some q) E hr (Or.inr ⟨_, rfl⟩) hlk eQ hZ d_AL_grow1_59 ⟨_, rfl, q, rfl, hq, h3, ⟨_, h2, fun i hi => absurd hi (Nat.not_lt_zero i), fun i _ => rfl⟩, fun u hu => by rw [eM1]; exact mm_same.tr (by rw [eMa]; exact mm_same.new hq _) (mm_same.up hl1 hu _)⟩
set_option maxHeartbeats 4000000 in
set_option maxRecDepth 100000 in
theorem c_AL_grow0 (l : Launch) (g : mm_G) {M0 : mm_M} {t la n ea : Nat} {mo : Int32} {ad : Nat → Nat} {f : Nat → Option Nat} (ht : t ≠ 0) (hla : M0 la = some (ob t 10 [.int mo, .ref ea, .int (nI n)])) (hn10 : 10 ≤ n) (hn20 : n < 2 ^ 20) (hea : M0 ea = some (aq t (g.2.2 4) n f)) (hf : ∀ i, i < n → f i = some (ad i)) (hfn : ∀ i, n ≤ i → f i = none) (hel : elOk M0 n ad) : Cq l g y_AL_grow0 b_AL_grow0 1 (.array (.object "java/lang/Object")) (rk 4 107 1 (alN n)) M0 [.ref la] (fun r M' => ∃ q, r = some q ∧ Gp g M0 M' t la n n ad mo q) := by
  refine mm_enter (by decide) (Nat.le_of_ble_eq_true rfl) (fun pG eV s m args below meth cdx ls Q E hml hr hlk hnm hZ hl eQ => ?_)
  have hx := E.1
  have hb := E.2.1
  have hl : lv_has ls 1 [(0, .ref la)] := hl
  refine lv_aload_n hx hb d_AL_grow0_0 rfl (lv_at hl 0 rfl) ?_
  refine lv_aload_n hx hb d_AL_grow0_1 rfl (lv_at hl 0 rfl) ?_
  refine mm_get E hZ cl_AL fl_AL_48 (by decide) hla rfl d_AL_grow0_2 ?_
  refine lv_iconst (v := 1) hx hb d_AL_grow0_5 (by decide) ?_
  refine lv_iadd hx hb d_AL_grow0_6 ?_
  rw [nI_1]
  refine mm_callq (mm_runV (As := [.int (nI (n + 1))]) (rest := []) E hZ hml hl.1 lk_AL_69 me_AL_grow1 in_AL_grow1 (c_AL_grow1 l g ht hla hn10 hn20 hea hf hfn hel) hla cl_AL.1 ⟨Nat.le_of_ble_eq_true rfl, Nat.le_of_ble_eq_true rfl⟩ rfl (Nat.le_of_ble_eq_true rfl) d_AL_grow0_7 ⟨Nat.le_of_ble_eq_true rfl, by show 0 + alN n ≤ alN n; omega⟩) hZ (fun rq M1 H locs hp hZ => ?_)
  obtain ⟨q, rfl, hG⟩ := hp
  refine W.widen (k := 1) (n := alN n) (Nat.le_of_ble_eq_true rfl) (by show 0 + alN n ≤ alN n; omega) ?_
  exact mm_aret (v := (some q)) E hr (Or.inr ⟨_, rfl⟩) hlk eQ hZ d_AL_grow0_10 ⟨_, rfl, q, rfl, hG⟩
set_option maxHeartbeats 4000000 in
set_option maxRecDepth 100000 in
theorem c_AL_grow0z (l : Launch) (g : mm_G) {M0 : mm_M} {t la : Nat} {mo : Int32} {ad : Nat → Nat} (ht : t ≠ 0) (hla : M0 la = some (ob t 10 [.int mo, .ref (g_df g), .int (nI 0)])) : Cq l g y_AL_grow0 b_AL_grow0 1 (.array (.object "java/lang/Object")) (rk 4 107 1 (alN 0)) M0 [.ref la] (fun r M' => ∃ q, r = some q ∧ Gp g M0 M' t la 0 0 ad mo q) := by
  refine mm_enter (by decide) (Nat.le_of_ble_eq_true rfl) (fun pG eV s m args below meth cdx ls Q E hml hr hlk hnm hZ hl eQ => ?_)
  have hx := E.1
  have hb := E.2.1
  have hl : lv_has ls 1 [(0, .ref la)] := hl
  refine lv_aload_n hx hb d_AL_grow0_0 rfl (lv_at hl 0 rfl) ?_
  refine lv_aload_n hx hb d_AL_grow0_1 rfl (lv_at hl 0 rfl) ?_
  refine mm_get E hZ cl_AL fl_AL_48 (by decide) hla rfl d_AL_grow0_2 ?_
  refine lv_iconst (v := 1) hx hb d_AL_grow0_5 (by decide) ?_
  refine lv_iadd hx hb d_AL_grow0_6 ?_
  rw [nI_1]
  refine mm_callq (mm_runV (As := [.int (nI 1)]) (rest := []) E hZ hml hl.1 lk_AL_69 me_AL_grow1 in_AL_grow1 (c_AL_grow1z l g (ad := ad) ht hla) hla cl_AL.1 ⟨Nat.le_of_ble_eq_true rfl, Nat.le_of_ble_eq_true rfl⟩ rfl (Nat.le_of_ble_eq_true rfl) d_AL_grow0_7 ⟨Nat.le_of_ble_eq_true rfl, by show 0 + alN 0 ≤ alN 0; omega⟩) hZ (fun rq M1 H locs hp hZ => ?_)
  obtain ⟨q, rfl, hG⟩ := hp
  refine W.widen (k := 1) (n := alN 0) (Nat.le_of_ble_eq_true rfl) (by show 0 + alN 0 ≤ alN 0; omega) ?_
  exact mm_aret (v := (some q)) E hr (Or.inr ⟨_, rfl⟩) hlk eQ hZ d_AL_grow0_10 ⟨_, rfl, q, rfl, hG⟩
set_option maxHeartbeats 4000000 in
set_option maxRecDepth 100000 in
theorem c_AL_add3 (l : Launch) (g : mm_G) {M0 : mm_M} {t la c n ea : Nat} {mo : Int32} {ad : Nat → Nat} {f : Nat → Option Nat} (ht : t ≠ 0) (hla : M0 la = some (ob t 10 [.int mo, .ref ea, .int (nI c)])) (hcn : c < n) (hn20 : n < 2 ^ 20) (hea : M0 ea = some (aq t (g.2.2 4) n f)) (hf : ∀ i, i < c → f i = some (ad i)) (hfn : ∀ i, c ≤ i → f i = none) {tv ci v : Nat} {vs : List Value} {rc : vw_C} (hv : M0 v = some (ob tv ci vs)) (hrc : classes[ci]? = some rc) (hca : Cond.castable rc.1 "java/lang/Object" ∈ NW) (htv : tv ≠ t) : Cv l g y_AL_add3 b_AL_add3 4 (rk 5 127 0 0) M0 [.ref la, .ref v, .ref ea, .int (nI c)] (fun M' => (∃ mo2 ea2 f2, M' la = some (ob t 10 [.int mo2, .ref ea2, .int (nI (c + 1))]) ∧ M' ea2 = some (aq t (g.2.2 4) n f2) ∧ (∀ i, i < c + 1 → f2 i = some (va_up ad c v i)) ∧ ∀ i, c + 1 ≤ i → f2 i = none) ∧ ∀ u, u ≠ t → mm_same u M0 M') := by
  refine mm_enter (by decide) (Nat.le_of_ble_eq_true rfl) (fun pG eV s m args below meth cdx ls Q E hml hr hlk hnm hZ hl eQ => ?_)
  have hx := E.1
  have hb := E.2.1
  have hl : lv_has ls 4 [(0, .ref la), (1, .ref v), (2, .ref ea), (3, .int (nI c))] := hl
  refine lv_iload_n hx hb d_AL_add3_0 rfl (lv_at hl 3 rfl) ?_
  refine lv_aload_n hx hb d_AL_add3_1 rfl (lv_at hl 2 rfl) ?_
  refine mm_alen (t0 := 4) (v := nI n) E hZ hea rfl rfl d_AL_add3_2 ?_
  refine lv_icmp_ne (tgt := 11) hx hb d_AL_add3_3 (by decide) (fun c3 => ?_) (fun c3 => ?_)
  · refine lv_aload_n hx hb d_AL_add3_11 rfl (lv_at hl 2 rfl) ?_
    refine lv_iload_n hx hb d_AL_add3_12 rfl (lv_at hl 3 rfl) ?_
    refine lv_aload_n hx hb d_AL_add3_13 rfl (lv_at hl 1 rfl) ?_
    refine mm_aastO (t0 := 4) E hZ hea rfl hca hv hrc ht rfl (show c < n by omega) (by omega) d_AL_add3_14 (fun H locs hZ => ?_)
    obtain ⟨M1, eM1⟩ : ∃ zz : mm_M, zz = mm_up M0 ea (aq t (g.2.2 4) n (va_up f c (some v))) := ⟨_, rfl⟩
    have hZ : mm_S g s M1 H locs := by rw [eM1]; exact hZ
    have h2 := (congrFun eM1 la).trans ((mm_ne _ _ (mm_apart hla hea (by intro x; cases x))).trans hla)
    have h3 := (congrFun eM1 v).trans ((mm_ne _ _ (mm_tag hv hea htv)).trans hv)
    have h4 := (congrFun eM1 ea).trans (mm_self _ _ _)
    refine lv_aload_n hx hb d_AL_add3_15 rfl (lv_at hl 0 rfl) ?_
    refine lv_iload_n hx hb d_AL_add3_16 rfl (lv_at hl 3 rfl) ?_
    refine lv_iconst (v := 1) hx hb d_AL_add3_17 (by decide) ?_
    refine lv_iadd hx hb d_AL_add3_18 ?_
    refine mm_put E hZ cl_AL fl_AL_48 (by decide) rfl h2 ht rfl rfl (Nat.le_of_ble_eq_true rfl) d_AL_add3_19 (fun H locs hZ => ?_)
    obtain ⟨M5, eM5⟩ : ∃ zz : mm_M, zz = mm_up M1 la (ob t 10 [.int mo, .ref ea, .int ((nI c) + 1)]) := ⟨_, rfl⟩
    have hZ : mm_S g s M5 H locs := by rw [eM5]; exact hZ
    have h6 := (congrFun eM5 ea).trans ((mm_ne _ _ (mm_apart h4 h2 (by intro x; cases x))).trans h4)
    have h7 := (congrFun eM5 la).trans (mm_self _ _ _)
    exact mm_vret E hr hlk eQ hZ d_AL_add3_22 ⟨rfl, ⟨mo, ea, _, by rw [← nI_1]; exact h7, h6, (fun i hi => by
      by_cases e : i = c
      · subst e; rw [va_up_self, va_up_self]
      · rw [va_up_ne _ _ e, va_up_ne _ _ e]; exact hf i (by omega)), (fun i hi => by rw [va_up_ne _ _ (by omega)]; exact hfn i (by omega))⟩, fun u hu => by rw [eM5]; exact mm_same.tr (by rw [eM1]; exact mm_same.up hea hu _) (mm_same.up h2 hu _)⟩
  · exact absurd ((nI_eq (by omega) (by omega)).mp c3) (by omega)
set_option maxHeartbeats 4000000 in
set_option maxRecDepth 100000 in
theorem c_AL_add3g (l : Launch) (g : mm_G) {M0 : mm_M} {t la n ea : Nat} {mo : Int32} {ad : Nat → Nat} {f : Nat → Option Nat} (ht : t ≠ 0) (hla : M0 la = some (ob t 10 [.int mo, .ref ea, .int (nI n)])) (hn10 : 10 ≤ n) (hn20 : n < 2 ^ 20) (hea : M0 ea = some (aq t (g.2.2 4) n f)) (hf : ∀ i, i < n → f i = some (ad i)) (hfn : ∀ i, n ≤ i → f i = none) (hel : elOk M0 n ad) {tv ci v : Nat} {vs : List Value} {rc : vw_C} (hv : M0 v = some (ob tv ci vs)) (hrc : classes[ci]? = some rc) (hca : Cond.castable rc.1 "java/lang/Object" ∈ NW) (htv : tv ≠ t) : Cv l g y_AL_add3 b_AL_add3 4 (rk 5 127 1 (alN n)) M0 [.ref la, .ref v, .ref ea, .int (nI n)] (fun M' => (∃ mo2 ea2 f2, M' la = some (ob t 10 [.int mo2, .ref ea2, .int (nI (n + 1))]) ∧ M' ea2 = some (aq t (g.2.2 4) (alN n) f2) ∧ (∀ i, i < n + 1 → f2 i = some (va_up ad n v i)) ∧ ∀ i, n + 1 ≤ i → f2 i = none) ∧ ∀ u, u ≠ t → mm_same u M0 M') := by
  refine mm_enter (by decide) (Nat.le_of_ble_eq_true rfl) (fun pG eV s m args below meth cdx ls Q E hml hr hlk hnm hZ hl eQ => ?_)
  have hx := E.1
  have hb := E.2.1
  have hl : lv_has ls 4 [(0, .ref la), (1, .ref v), (2, .ref ea), (3, .int (nI n))] := hl
  refine lv_iload_n hx hb d_AL_add3_0 rfl (lv_at hl 3 rfl) ?_
  refine lv_aload_n hx hb d_AL_add3_1 rfl (lv_at hl 2 rfl) ?_
  refine mm_alen (t0 := 4) (v := nI n) E hZ hea rfl rfl d_AL_add3_2 ?_
  refine lv_icmp_ne (tgt := 11) hx hb d_AL_add3_3 (by decide) (fun c3 => ?_) (fun c3 => ?_)
  · exact absurd rfl c3
  · refine lv_aload_n hx hb d_AL_add3_6 rfl (lv_at hl 0 rfl) ?_
    refine mm_callq (mm_runV (As := []) (rest := []) E hZ hml hl.1 lk_AL_129 me_AL_grow0 in_AL_grow0 (c_AL_grow0 l g ht hla hn10 hn20 hea hf hfn hel) hla cl_AL.1 ⟨Nat.le_of_ble_eq_true rfl, Nat.le_of_ble_eq_true rfl⟩ rfl (Nat.le_of_ble_eq_true rfl) d_AL_add3_7 ⟨Nat.le_of_ble_eq_true rfl, by show 0 + alN n ≤ alN n; omega⟩) hZ (fun rq M1 H locs hp hZ => ?_)
    obtain ⟨q, rfl, hq, hl1, ⟨f1, hq1, hf1, hfn1⟩, hs1⟩ := hp
    have hv1 := hs1 tv htv v _ hv
    have hgt : n < alN n := by unfold alN; split <;> omega
    have hal2 : alN n < 2 ^ 21 := by rw [alN_pos hn10]; omega
    refine lv_astore_n (lv' := [(2, .ref q), (0, .ref la), (1, .ref v), (3, .int (nI n))]) hx hb d_AL_add3_10 rfl hl (by decide) rfl (fun ls hl => ?_)
    refine lv_aload_n hx hb d_AL_add3_11 rfl (lv_at hl 0 rfl) ?_
    refine lv_iload_n hx hb d_AL_add3_12 rfl (lv_at hl 3 rfl) ?_
    refine lv_aload_n hx hb d_AL_add3_13 rfl (lv_at hl 2 rfl) ?_
    refine mm_aastO (t0 := 4) E hZ hq1 rfl hca hv1 hrc ht rfl (show n < (alN n) by omega) (by omega) d_AL_add3_14 (fun H locs hZ => ?_)
    obtain ⟨M1, eM1⟩ : ∃ zz : mm_M, zz = mm_up M1 q (aq t (g.2.2 4) (alN n) (va_up f1 n (some v))) := ⟨_, rfl⟩
    have hZ : mm_S g s M1 H locs := by rw [eM1]; exact hZ
    have h2 := (congrFun eM1 la).trans ((mm_ne _ _ (mm_apart hl1 hq1 (by intro x; cases x))).trans hl1)
    have h3 := (congrFun eM1 v).trans ((mm_ne _ _ (mm_tag hv1 hq1 htv)).trans hv1)
    have h4 := (congrFun eM1 q).trans (mm_self _ _ _)
    refine lv_aload_n hx hb d_AL_add3_15 rfl (lv_at hl 1 rfl) ?_
    refine lv_iload_n hx hb d_AL_add3_16 rfl (lv_at hl 3 rfl) ?_
    refine lv_iconst (v := 1) hx hb d_AL_add3_17 (by decide) ?_
    refine lv_iadd hx hb d_AL_add3_18 ?_
    refine mm_put E hZ cl_AL fl_AL_48 (by decide) rfl h2 ht rfl rfl (Nat.le_of_ble_eq_true rfl) d_AL_add3_19 (fun H locs hZ => ?_)
    obtain ⟨M5, eM5⟩ : ∃ zz : mm_M, zz = mm_up M1 la (ob t 10 [.int mo, .ref q, .int ((nI n) + 1)]) := ⟨_, rfl⟩
    have hZ : mm_S g s M5 H locs := by rw [eM5]; exact hZ
    have h6 := (congrFun eM5 q).trans ((mm_ne _ _ (mm_apart h4 h2 (by intro x; cases x))).trans h4)
    have h7 := (congrFun eM5 la).trans (mm_self _ _ _)
    refine W.widen (k := 1) (n := alN n) (Nat.le_of_ble_eq_true rfl) (by show 0 + alN n ≤ alN n; omega) ?_
    exact mm_vret E hr hlk eQ hZ d_AL_add3_22 ⟨rfl, ⟨mo, q, _, by rw [← nI_1]; exact h7, h6, (fun i hi => by
      by_cases e : i = n
      · subst e; rw [va_up_self, va_up_self]
      · rw [va_up_ne _ _ e, va_up_ne _ _ e]; exact hf1 i (by omega)), (fun i hi => by rw [va_up_ne _ _ (by omega)]; exact hfn1 i (by omega))⟩, fun u hu => (hs1 u hu).tr (by rw [eM5]; exact mm_same.tr (by rw [eM1]; exact mm_same.up hq1 hu _) (mm_same.up h2 hu _))⟩
set_option maxHeartbeats 4000000 in
set_option maxRecDepth 100000 in
theorem c_AL_add3z (l : Launch) (g : mm_G) {M0 : mm_M} {t la : Nat} {mo : Int32} {ad : Nat → Nat} (ht : t ≠ 0) (hla : M0 la = some (ob t 10 [.int mo, .ref (g_df g), .int (nI 0)])) {tv ci v : Nat} {vs : List Value} {rc : vw_C} (hv : M0 v = some (ob tv ci vs)) (hrc : classes[ci]? = some rc) (hca : Cond.castable rc.1 "java/lang/Object" ∈ NW) (htv : tv ≠ t) : Cv l g y_AL_add3 b_AL_add3 4 (rk 5 127 1 (alN 0)) M0 [.ref la, .ref v, .ref (g_df g), .int (nI 0)] (fun M' => (∃ mo2 ea2 f2, M' la = some (ob t 10 [.int mo2, .ref ea2, .int (nI (0 + 1))]) ∧ M' ea2 = some (aq t (g.2.2 4) (alN 0) f2) ∧ (∀ i, i < 0 + 1 → f2 i = some (va_up ad 0 v i)) ∧ ∀ i, 0 + 1 ≤ i → f2 i = none) ∧ ∀ u, u ≠ t → mm_same u M0 M') := by
  refine mm_enter (by decide) (Nat.le_of_ble_eq_true rfl) (fun pG eV s m args below meth cdx ls Q E hml hr hlk hnm hZ hl eQ => ?_)
  have hx := E.1
  have hb := E.2.1
  have hl : lv_has ls 4 [(0, .ref la), (1, .ref v), (2, .ref (g_df g)), (3, .int (nI 0))] := hl
  refine lv_iload_n hx hb d_AL_add3_0 rfl (lv_at hl 3 rfl) ?_
  refine lv_aload_n hx hb d_AL_add3_1 rfl (lv_at hl 2 rfl) ?_
  refine mm_dlen E hZ d_AL_add3_2 ?_
  refine lv_icmp_ne (tgt := 11) hx hb d_AL_add3_3 (by decide) (fun c3 => ?_) (fun c3 => ?_)
  · exact absurd rfl c3
  · refine lv_aload_n hx hb d_AL_add3_6 rfl (lv_at hl 0 rfl) ?_
    refine mm_callq (mm_runV (As := []) (rest := []) E hZ hml hl.1 lk_AL_129 me_AL_grow0 in_AL_grow0 (c_AL_grow0z l g (ad := ad) ht hla) hla cl_AL.1 ⟨Nat.le_of_ble_eq_true rfl, Nat.le_of_ble_eq_true rfl⟩ rfl (Nat.le_of_ble_eq_true rfl) d_AL_add3_7 ⟨Nat.le_of_ble_eq_true rfl, by show 0 + alN 0 ≤ alN 0; omega⟩) hZ (fun rq M1 H locs hp hZ => ?_)
    obtain ⟨q, rfl, hq, hl1, ⟨f1, hq1, hf1, hfn1⟩, hs1⟩ := hp
    have hv1 := hs1 tv htv v _ hv
    have hgt : 0 < alN 0 := by unfold alN; split <;> omega
    have hal2 : alN 0 < 2 ^ 21 := by decide
    refine lv_astore_n (lv' := [(2, .ref q), (0, .ref la), (1, .ref v), (3, .int (nI 0))]) hx hb d_AL_add3_10 rfl hl (by decide) rfl (fun ls hl => ?_)
    refine lv_aload_n hx hb d_AL_add3_11 rfl (lv_at hl 0 rfl) ?_
    refine lv_iload_n hx hb d_AL_add3_12 rfl (lv_at hl 3 rfl) ?_
    refine lv_aload_n hx hb d_AL_add3_13 rfl (lv_at hl 2 rfl) ?_
    refine mm_aastO (t0 := 4) E hZ hq1 rfl hca hv1 hrc ht rfl (show 0 < (alN 0) by omega) (by omega) d_AL_add3_14 (fun H locs hZ => ?_)
    obtain ⟨M1, eM1⟩ : ∃ zz : mm_M, zz = mm_up M1 q (aq t (g.2.2 4) (alN 0) (va_up f1 0 (some v))) := ⟨_, rfl⟩
    have hZ : mm_S g s M1 H locs := by rw [eM1]; exact hZ
    have h2 := (congrFun eM1 la).trans ((mm_ne _ _ (mm_apart hl1 hq1 (by intro x; cases x))).trans hl1)
    have h3 := (congrFun eM1 v).trans ((mm_ne _ _ (mm_tag hv1 hq1 htv)).trans hv1)
    have h4 := (congrFun eM1 q).trans (mm_self _ _ _)
    refine lv_aload_n hx hb d_AL_add3_15 rfl (lv_at hl 1 rfl) ?_
    refine lv_iload_n hx hb d_AL_add3_16 rfl (lv_at hl 3 rfl) ?_
    refine lv_iconst (v := 1) hx hb d_AL_add3_17 (by decide) ?_
    refine lv_iadd hx hb d_AL_add3_18 ?_
    refine mm_put E hZ cl_AL fl_AL_48 (by decide) rfl h2 ht rfl rfl (Nat.le_of_ble_eq_true rfl) d_AL_add3_19 (fun H locs hZ => ?_)
    obtain ⟨M5, eM5⟩ : ∃ zz : mm_M, zz = mm_up M1 la (ob t 10 [.int mo, .ref q, .int ((nI 0) + 1)]) := ⟨_, rfl⟩
    have hZ : mm_S g s M5 H locs := by rw [eM5]; exact hZ
    have h6 := (congrFun eM5 q).trans ((mm_ne _ _ (mm_apart h4 h2 (by intro x; cases x))).trans h4)
    have h7 := (congrFun eM5 la).trans (mm_self _ _ _)
    refine W.widen (k := 1) (n := alN 0) (Nat.le_of_ble_eq_true rfl) (by show 0 + alN 0 ≤ alN 0; omega) ?_
    exact mm_vret E hr hlk eQ hZ d_AL_add3_22 ⟨rfl, ⟨mo, q, _, by rw [← nI_1]; exact h7, h6, (fun i hi => by
      by_cases e : i = 0
      · subst e; rw [va_up_self, va_up_self]
      · rw [va_up_ne _ _ e, va_up_ne _ _ e]; exact hf1 i (by omega)), (fun i hi => by rw [va_up_ne _ _ (by omega)]; exact hfn1 i (by omega))⟩, fun u hu => (hs1 u hu).tr (by rw [eM5]; exact mm_same.tr (by rw [eM1]; exact mm_same.up hq1 hu _) (mm_same.up h2 hu _))⟩
