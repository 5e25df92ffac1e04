/-! THE CLASS: DeliveryList -/
def Dl (g : mm_G) (M : mm_M) (o dA2 sA c : Nat) (fd fs : Nat → Int32) : Prop := M o = some (ob 6 3 [.ref dA2, .ref sA, .int (nI c)]) ∧ M dA2 = some (ai 16 (g.2.2 0) 512 fd) ∧ M sA = some (ai 17 (g.2.2 0) 512 fs)
def cnt (fs : Nat → Int32) (v : Int32) : Nat → Nat
  | 0 => 0
  | k + 1 => if fs k = v then cnt fs v k + 1 else cnt fs v k
theorem cnt_le (fs : Nat → Int32) (v : Int32) (k : Nat) : cnt fs v k ≤ k := by
  induction k with
  | zero => exact Nat.le_refl _
  | succ k ih => unfold cnt; split <;> omega
def ins2 (fd fs fd' fs' : Nat → Int32) (c : Nat) (x y : Int32) : Prop := ∃ p, p ≤ c ∧ (∀ i, i < p → fd' i = fd i ∧ fs' i = fs i) ∧ fd' p = x ∧ fs' p = y ∧ (∀ i, p ≤ i → i < c → fd' (i + 1) = fd i ∧ fs' (i + 1) = fs i ∧ x < fd i) ∧ (p = 0 ∨ fd (p - 1) ≤ x)
set_option maxHeartbeats 4000000 in
set_option maxRecDepth 100000 in
theorem c_Deliv_init (l : Launch) (g : mm_G) {M0 : mm_M} {o : Nat} (h0 : M0 o = some (ob 6 3 [.null, .null, .int 0])) : Cv l g y_Deliv_init b_Deliv_init 1 (rk 1 20 2 1024) M0 [.ref o] (fun M' => ∃ dA2 sA, Dl g M' o dA2 sA 0 (fun _ => 0) (fun _ => 0) ∧ ∀ t, t ≠ 6 → t ≠ 16 → t ≠ 17 → mm_same t M0 M') := by
  refine mm_enter (by decide) (Nat.le_of_ble_eq_true rfl) (fun pG eV s m args below meth cdx ls Q E hml hr hlk hnm hZ hl eQ => ?_)
  have hx := E.1
  have hb := E.2.1
  have hl : lv_has ls 1 [(0, .ref o)] := hl
  refine lv_aload_n hx hb d_Deliv_init_0 rfl (lv_at hl 0 rfl) ?_
  refine mm_objI E hml hl.1 w_116 w_30 w_31 (Nat.le_of_ble_eq_true rfl) (Nat.le_of_ble_eq_true rfl) d_Deliv_init_1 ?_
  refine lv_aload_n hx hb d_Deliv_init_4 rfl (lv_at hl 0 rfl) ?_
  refine lv_sipush (v := 512) hx hb d_Deliv_init_5 (by decide) ?_
  refine mm_newi 16 (t0 := 0) (cA := g.2.2 0) (N := 512) E hZ rfl w_110 (by decide) (by decide) (by decide) (Nat.le_of_ble_eq_true rfl) (Nat.le_of_ble_eq_true rfl) d_Deliv_init_8 (fun dA2 H hBb hNb hZ => ?_)
  obtain ⟨Ma, eMa⟩ : ∃ zz : mm_M, zz = mm_up M0 dA2 (ai 16 (g.2.2 0) 512 (fun _ => 0)) := ⟨_, rfl⟩
  have hZ : mm_S g s Ma H [] := by rw [eMa]; exact hZ
  have h1 := (congrFun eMa o).trans ((mm_ne _ _ (mm_apartN h0 hNb)).trans h0)
  have h2 := (congrFun eMa dA2).trans (mm_self _ _ _)
  refine mm_putF (k := 0) E hnm hZ cl_Deliv w_117 (by decide) rfl rfl h1 (by decide) rfl rfl (Nat.le_of_ble_eq_true rfl) d_Deliv_init_10 (fun H locs hZ => ?_)
  obtain ⟨M3, eM3⟩ : ∃ zz : mm_M, zz = mm_up Ma o (ob 6 3 [.ref dA2, .null, .int 0]) := ⟨_, rfl⟩
  have hZ : mm_S g s M3 H locs := by rw [eM3]; exact hZ
  have h4 := (congrFun eM3 dA2).trans ((mm_ne _ _ (mm_tag h2 h1 (by decide))).trans h2)
  have h5 := (congrFun eM3 o).trans (mm_self _ _ _)
  refine lv_aload_n hx hb d_Deliv_init_13 rfl (lv_at hl 0 rfl) ?_
  refine lv_sipush (v := 512) hx hb d_Deliv_init_14 (by decide) ?_
  refine mm_newi 17 (t0 := 0) (cA := g.2.2 0) (N := 512) E hZ rfl w_110 (by decide) (by decide) (by decide) (Nat.le_of_ble_eq_true rfl) (Nat.le_of_ble_eq_true rfl) d_Deliv_init_17 (fun sA H hBl hNl hZ => ?_)
  obtain ⟨Mc, eMc⟩ : ∃ zz : mm_M, zz = mm_up M3 sA (ai 17 (g.2.2 0) 512 (fun _ => 0)) := ⟨_, rfl⟩
  have hZ : mm_S g s Mc H locs := by rw [eMc]; exact hZ
  have h6 := (congrFun eMc dA2).trans ((mm_ne _ _ (mm_apartN h4 hNl)).trans h4)
  have h7 := (congrFun eMc o).trans ((mm_ne _ _ (mm_apartN h5 hNl)).trans h5)
  have h8 := (congrFun eMc sA).trans (mm_self _ _ _)
  refine mm_putF (k := 1) E hnm hZ cl_Deliv w_118 (by decide) rfl rfl h7 (by decide) rfl rfl (Nat.le_of_ble_eq_true rfl) d_Deliv_init_19 (fun H locs hZ => ?_)
  obtain ⟨M9, eM9⟩ : ∃ zz : mm_M, zz = mm_up Mc o (ob 6 3 [.ref dA2, .ref sA, .int 0]) := ⟨_, rfl⟩
  have hZ : mm_S g s M9 H locs := by rw [eM9]; exact hZ
  have h10 := (congrFun eM9 dA2).trans ((mm_ne _ _ (mm_tag h6 h7 (by decide))).trans h6)
  have h11 := (congrFun eM9 sA).trans ((mm_ne _ _ (mm_tag h8 h7 (by decide))).trans h8)
  have h12 := (congrFun eM9 o).trans (mm_self _ _ _)
  refine lv_aload_n hx hb d_Deliv_init_22 rfl (lv_at hl 0 rfl) ?_
  refine lv_iconst (v := 0) hx hb d_Deliv_init_23 (by decide) ?_
  refine mm_put E hZ cl_Deliv fl_Deliv_18 (by decide) rfl h12 (by decide) rfl rfl (Nat.le_of_ble_eq_true rfl) d_Deliv_init_24 (fun H locs hZ => ?_)
  obtain ⟨M13, eM13⟩ : ∃ zz : mm_M, zz = mm_up M9 o (ob 6 3 [.ref dA2, .ref sA, .int 0]) := ⟨_, rfl⟩
  have hZ : mm_S g s M13 H locs := by rw [eM13]; exact hZ
  have h14 := (congrFun eM13 dA2).trans ((mm_ne _ _ (mm_tag h10 h12 (by decide))).trans h10)
  have h15 := (congrFun eM13 sA).trans ((mm_ne _ _ (mm_tag h11 h12 (by decide))).trans h11)
  have h16 := (congrFun eM13 o).trans (mm_self _ _ _)
  exact mm_vret E hr hlk eQ hZ d_Deliv_init_27 ⟨rfl, dA2, sA, ⟨h16, h14, h15⟩, fun t u5 u13 u14 => by
    rw [eM13]
    refine mm_same.tr ?_ (mm_same.up h12 u5 _)
    rw [eM9]
    refine mm_same.tr ?_ (mm_same.up h7 u5 _)
    rw [eMc]
    refine mm_same.tr ?_ (mm_same.new hNl _)
    rw [eM3]
    refine mm_same.tr ?_ (mm_same.up h1 u5 _)
    rw [eMa]
    exact mm_same.new hNb _⟩
set_option maxHeartbeats 4000000 in
set_option maxRecDepth 100000 in
theorem c_Deliv_countOf (l : Launch) (g : mm_G) {M0 : mm_M} {o dA2 sA c : Nat} {fd fs : Nat → Int32} (h0 : Dl g M0 o dA2 sA c fd fs) (hc : c ≤ 512) (v : Int32) : Ci l g y_Deliv_countOf b_Deliv_countOf 4 .int (rk 0 0 0 0) M0 [.ref o, .int v] (fun r M' => M' = M0 ∧ r = nI (cnt fs v c)) := by
  refine mm_enter (by decide) (Nat.le_of_ble_eq_true rfl) (fun pG eV s m args below meth cdx ls Q E hml hr hlk hnm hZ hl eQ => ?_)
  have hx := E.1
  have hb := E.2.1
  have hl : lv_has ls 4 [(0, .ref o), (1, .int v)] := hl
  have ho := h0.1
  have hdA := h0.2.1
  have hsA := h0.2.2
  refine lv_iconst (v := 0) hx hb d_Deliv_countOf_0 (by decide) ?_
  refine lv_istore_n (lv' := [(2, .int 0), (0, .ref o), (1, .int v)]) hx hb d_Deliv_countOf_1 rfl hl (by decide) rfl (fun ls hl => ?_)
  refine lv_iconst (v := 0) hx hb d_Deliv_countOf_2 (by decide) ?_
  refine lv_istore_n (lv' := [(3, .int 0), (2, .int 0), (0, .ref o), (1, .int v)]) hx hb d_Deliv_countOf_3 rfl hl (by decide) rfl (fun ls hl => ?_)
  have loop : ∀ (n : Nat) (k : Nat) (ls : Array Slot), k ≤ c → c + 1 ≤ k + n → lv_has ls 4 [(0, .ref o), (1, .int v), (2, .int (nI (cnt fs v k))), (3, .int (nI k))] → W pG l eV (rk 0 0 0 0) s m args below meth cdx s.heap [] 0 0 Q (F0 m 4 ls []) := by
    intro n
    induction n with
    | zero => exact fun k ls hk1 hfu _ => absurd hfu (by omega)
    | succ n ih =>
      intro k ls hk1 hfu hl
      refine lv_iload_n hx hb d_Deliv_countOf_4 rfl (lv_at hl 3 rfl) ?_
      refine lv_aload_n hx hb d_Deliv_countOf_5 rfl (lv_at hl 0 rfl) ?_
      refine mm_get E hZ cl_Deliv fl_Deliv_18 (by decide) ho rfl d_Deliv_countOf_6 ?_
      refine lv_icmp_ge (tgt := 31) hx hb d_Deliv_countOf_9 (by decide) (fun c9 => ?_) (fun c9 => ?_)
      · have hk2 : k = c := by
          rcases Nat.lt_or_ge k c with z | z
          · exact absurd c9 (nI_ge z (by omega))
          · omega
        subst hk2
        refine lv_iload_n hx hb d_Deliv_countOf_31 rfl (lv_at hl 2 rfl) ?_
        exact mm_iret (v := nI (cnt fs v k)) E hr hlk eQ hZ d_Deliv_countOf_32 ⟨_, rfl, rfl, rfl⟩
      · have hk2 : k < c := by
          rcases Nat.lt_or_ge k c with z | z
          · exact z
          · exact absurd (nI_le z (by omega)) c9
        refine lv_aload_n hx hb d_Deliv_countOf_12 rfl (lv_at hl 0 rfl) ?_
        refine mm_get E hZ cl_Deliv fl_Deliv_15 (by decide) ho rfl d_Deliv_countOf_13 ?_
        refine lv_iload_n hx hb d_Deliv_countOf_16 rfl (lv_at hl 3 rfl) ?_
        refine mm_iald (t0 := 0) E hZ hsA rfl rfl (show k < 512 by omega) (by decide) d_Deliv_countOf_17 ?_
        refine lv_iload_n hx hb d_Deliv_countOf_18 rfl (lv_at hl 1 rfl) ?_
        refine lv_icmp_ne (tgt := 25) hx hb d_Deliv_countOf_19 (by decide) (fun c19 => ?_) (fun c19 => ?_)
        · refine lv_iinc (v := (nI k) + 1) (lv' := [(3, .int ((nI k) + 1)), (0, .ref o), (1, .int v), (2, .int (nI (cnt fs v k)))]) hx hb d_Deliv_countOf_25 hl (k := 3) rfl rfl (by decide) rfl (fun ls hl => ?_)
          refine lv_goto (tgt := 4) hx hb d_Deliv_countOf_28 (by decide) ?_
          rw [nI_1] at hl
          have hm : cnt fs v (k + 1) = cnt fs v k := by rw [cnt, if_neg c19]
          rw [← hm] at hl
          exact ih (k + 1) ls (by omega) (by omega) (lv_sub hl [1, 2, 3, 0] rfl)
        · refine lv_iinc (v := (nI (cnt fs v k)) + 1) (lv' := [(2, .int ((nI (cnt fs v k)) + 1)), (0, .ref o), (1, .int v), (3, .int (nI k))]) hx hb d_Deliv_countOf_22 hl (k := 2) rfl rfl (by decide) rfl (fun ls hl => ?_)
          refine lv_iinc (v := (nI k) + 1) (lv' := [(3, .int ((nI k) + 1)), (2, .int ((nI (cnt fs v k)) + 1)), (0, .ref o), (1, .int v)]) hx hb d_Deliv_countOf_25 hl (k := 3) rfl rfl (by decide) rfl (fun ls hl => ?_)
          refine lv_goto (tgt := 4) hx hb d_Deliv_countOf_28 (by decide) ?_
          rw [nI_1] at hl
          rw [nI_1] at hl
          have hm : cnt fs v (k + 1) = cnt fs v k + 1 := by rw [cnt, if_pos c19]
          rw [← hm] at hl
          exact ih (k + 1) ls (by omega) (by omega) (lv_sub hl [2, 3, 1, 0] rfl)
  exact loop (c + 1) 0 ls (Nat.zero_le _) (by omega) (lv_sub hl [2, 3, 1, 0] rfl)
set_option maxHeartbeats 4000000 in
set_option maxRecDepth 100000 in
theorem c_Deliv_daysAtRank (l : Launch) (g : mm_G) {M0 : mm_M} {o dA2 sA c : Nat} {fd fs : Nat → Int32} (h0 : Dl g M0 o dA2 sA c fd fs) (hc : c ≤ 512) (v rk0 : Int32) : Ci l g y_Deliv_daysAtRank b_Deliv_daysAtRank 5 .int (rk 0 0 0 0) M0 [.ref o, .int v, .int rk0] (fun r M' => M' = M0 ∧ ((∃ j, j < c ∧ (fs j = v ∧ nI (cnt fs v (j + 1)) = rk0) ∧ r = fd j) ∨ ((∀ j, j < c → ¬ (fs j = v ∧ nI (cnt fs v (j + 1)) = rk0)) ∧ r = (-1)))) := by
  refine mm_enter (by decide) (Nat.le_of_ble_eq_true rfl) (fun pG eV s m args below meth cdx ls Q E hml hr hlk hnm hZ hl eQ => ?_)
  have hx := E.1
  have hb := E.2.1
  have hl : lv_has ls 5 [(0, .ref o), (1, .int v), (2, .int rk0)] := hl
  have ho := h0.1
  have hdA := h0.2.1
  have hsA := h0.2.2
  refine lv_iconst (v := 0) hx hb d_Deliv_daysAtRank_0 (by decide) ?_
  refine lv_istore_n (lv' := [(3, .int 0), (0, .ref o), (1, .int v), (2, .int rk0)]) hx hb d_Deliv_daysAtRank_1 rfl hl (by decide) rfl (fun ls hl => ?_)
  refine lv_iconst (v := 0) hx hb d_Deliv_daysAtRank_2 (by decide) ?_
  refine lv_istore (lv' := [(4, .int 0), (3, .int 0), (0, .ref o), (1, .int v), (2, .int rk0)]) hx hb d_Deliv_daysAtRank_3 hl (by decide) rfl (fun ls hl => ?_)
  have loop : ∀ (n : Nat) (k : Nat) (ls : Array Slot), k ≤ c → (∀ j, j < k → ¬ (fs j = v ∧ nI (cnt fs v (j + 1)) = rk0)) → c + 1 ≤ k + n → lv_has ls 5 [(0, .ref o), (1, .int v), (2, .int rk0), (3, .int (nI (cnt fs v k))), (4, .int (nI k))] → W pG l eV (rk 0 0 0 0) s m args below meth cdx s.heap [] 0 0 Q (F0 m 5 ls []) := by
    intro n
    induction n with
    | zero => exact fun k ls hk1 hno hfu _ => absurd hfu (by omega)
    | succ n ih =>
      intro k ls hk1 hno hfu hl
      refine lv_iload hx hb d_Deliv_daysAtRank_5 (lv_at hl 4 rfl) ?_
      refine lv_aload_n hx hb d_Deliv_daysAtRank_7 rfl (lv_at hl 0 rfl) ?_
      refine mm_get E hZ cl_Deliv fl_Deliv_18 (by decide) ho rfl d_Deliv_daysAtRank_8 ?_
      refine lv_icmp_ge (tgt := 47) hx hb d_Deliv_daysAtRank_11 (by decide) (fun c11 => ?_) (fun c11 => ?_)
      · have hk2 : k = c := by
          rcases Nat.lt_or_ge k c with z | z
          · exact absurd c11 (nI_ge z (by omega))
          · omega
        subst hk2
        refine lv_iconst (v := (-1)) hx hb d_Deliv_daysAtRank_47 (by decide) ?_
        exact mm_iret (v := (-1)) E hr hlk eQ hZ d_Deliv_daysAtRank_48 ⟨_, rfl, rfl, Or.inr ⟨hno, rfl⟩⟩
      · have hk2 : k < c := by
          rcases Nat.lt_or_ge k c with z | z
          · exact z
          · exact absurd (nI_le z (by omega)) c11
        refine lv_aload_n hx hb d_Deliv_daysAtRank_14 rfl (lv_at hl 0 rfl) ?_
        refine mm_get E hZ cl_Deliv fl_Deliv_15 (by decide) ho rfl d_Deliv_daysAtRank_15 ?_
        refine lv_iload hx hb d_Deliv_daysAtRank_18 (lv_at hl 4 rfl) ?_
        refine mm_iald (t0 := 0) E hZ hsA rfl rfl (show k < 512 by omega) (by decide) d_Deliv_daysAtRank_20 ?_
        refine lv_iload_n hx hb d_Deliv_daysAtRank_21 rfl (lv_at hl 1 rfl) ?_
        refine lv_icmp_ne (tgt := 41) hx hb d_Deliv_daysAtRank_22 (by decide) (fun c22 => ?_) (fun c22 => ?_)
        · have hm : cnt fs v (k + 1) = cnt fs v k := by rw [cnt, if_neg c22]
          rw [← hm] at hl
          refine lv_iinc (v := (nI k) + 1) (lv' := [(4, .int ((nI k) + 1)), (0, .ref o), (1, .int v), (2, .int rk0), (3, .int (nI (cnt fs v (k + 1))))]) hx hb d_Deliv_daysAtRank_41 hl (k := 4) rfl rfl (by decide) rfl (fun ls hl => ?_)
          refine lv_goto (tgt := 5) hx hb d_Deliv_daysAtRank_44 (by decide) ?_
          rw [nI_1] at hl
          exact ih (k + 1) ls (by omega) (fun j z => by
            rcases Nat.lt_or_ge j k with y | y
            · exact hno j y
            · rw [show j = k by omega]; exact fun z => c22 z.1) (by omega) (lv_sub hl [1, 2, 3, 4, 0] rfl)
        · have hm : cnt fs v (k + 1) = cnt fs v k + 1 := by rw [cnt, if_pos c22]
          refine lv_iinc (v := (nI (cnt fs v k)) + 1) (lv' := [(3, .int ((nI (cnt fs v k)) + 1)), (0, .ref o), (1, .int v), (2, .int rk0), (4, .int (nI k))]) hx hb d_Deliv_daysAtRank_25 hl (k := 3) rfl rfl (by decide) rfl (fun ls hl => ?_)
          rw [nI_1, ← hm] at hl
          refine lv_iload_n hx hb d_Deliv_daysAtRank_28 rfl (lv_at hl 0 rfl) ?_
          refine lv_iload_n hx hb d_Deliv_daysAtRank_29 rfl (lv_at hl 3 rfl) ?_
          refine lv_icmp_ne (tgt := 41) hx hb d_Deliv_daysAtRank_30 (by decide) (fun c30 => ?_) (fun c30 => ?_)
          · refine lv_iinc (v := (nI k) + 1) (lv' := [(4, .int ((nI k) + 1)), (3, .int (nI (cnt fs v (k + 1)))), (0, .ref o), (1, .int v), (2, .int rk0)]) hx hb d_Deliv_daysAtRank_41 hl (k := 4) rfl rfl (by decide) rfl (fun ls hl => ?_)
            refine lv_goto (tgt := 5) hx hb d_Deliv_daysAtRank_44 (by decide) ?_
            rw [nI_1] at hl
            exact ih (k + 1) ls (by omega) (fun j z => by
              rcases Nat.lt_or_ge j k with y | y
              · exact hno j y
              · rw [show j = k by omega]; exact fun z => c30 z.2) (by omega) (lv_sub hl [2, 3, 4, 1, 0] rfl)
          · refine lv_aload_n hx hb d_Deliv_daysAtRank_33 rfl (lv_at hl 1 rfl) ?_
            refine mm_get E hZ cl_Deliv fl_Deliv_9 (by decide) ho rfl d_Deliv_daysAtRank_34 ?_
            refine lv_iload hx hb d_Deliv_daysAtRank_37 (lv_at hl 4 rfl) ?_
            refine mm_iald (t0 := 0) E hZ hdA rfl rfl (show k < 512 by omega) (by decide) d_Deliv_daysAtRank_39 ?_
            exact mm_iret (v := fd k) E hr hlk eQ hZ d_Deliv_daysAtRank_40 ⟨_, rfl, rfl, Or.inl ⟨k, hk2, ⟨c22, c30⟩, rfl⟩⟩
  exact loop (c + 1) 0 ls (Nat.zero_le _) (fun j z => absurd z (Nat.not_lt_zero j)) (by omega) (lv_sub hl [2, 3, 4, 1, 0] rfl)
set_option maxHeartbeats 4000000 in
set_option maxRecDepth 100000 in
theorem c_Deliv_addDelivery (l : Launch) (g : mm_G) {M0 : mm_M} {o dA2 sA c : Nat} {fd fs : Nat → Int32} (h0 : Dl g M0 o dA2 sA c fd fs) (hc : c < 512) (y x : Int32) : Cv l g y_Deliv_addDelivery b_Deliv_addDelivery 4 (rk 0 0 0 0) M0 [.ref o, .int y, .int x] (fun M' => ∃ fd' fs', Dl g M' o dA2 sA (c + 1) fd' fs' ∧ ins2 fd fs fd' fs' c x y ∧ ∀ t, t ≠ 6 → t ≠ 16 → t ≠ 17 → mm_same t M0 M') := by
  refine mm_enter (by decide) (Nat.le_of_ble_eq_true rfl) (fun pG eV s m args below meth cdx ls Q E hml hr hlk hnm hZ hl eQ => ?_)
  have hx := E.1
  have hb := E.2.1
  have hl : lv_has ls 4 [(0, .ref o), (1, .int y), (2, .int x)] := hl
  have ho := h0.1
  have hdA := h0.2.1
  have hsA := h0.2.2
  refine lv_aload_n hx hb d_Deliv_addDelivery_0 rfl (lv_at hl 0 rfl) ?_
  refine mm_get E hZ cl_Deliv fl_Deliv_18 (by decide) ho rfl d_Deliv_addDelivery_1 ?_
  refine lv_sipush (v := 512) hx hb d_Deliv_addDelivery_4 (by decide) ?_
  refine lv_icmp_lt (tgt := 11) hx hb d_Deliv_addDelivery_7 (by decide) (fun c7 => ?_) (fun c7 => ?_)
  · refine lv_aload_n hx hb d_Deliv_addDelivery_11 rfl (lv_at hl 0 rfl) ?_
    refine mm_get E hZ cl_Deliv fl_Deliv_18 (by decide) ho rfl d_Deliv_addDelivery_12 ?_
    refine lv_istore_n (lv' := [(3, .int (nI c)), (0, .ref o), (1, .int y), (2, .int x)]) hx hb d_Deliv_addDelivery_15 rfl hl (by decide) rfl (fun ls hl => ?_)
    have loop : ∀ (n : Nat) (gd : Nat → Int32) (gs : Nat → Int32) (k : Nat) (M : mm_M) (H : Heap) (locs : List Loc) (ls : Array Slot), mm_S g s M H locs → M o = some (ob 6 3 [.ref dA2, .ref sA, .int (nI c)]) → M dA2 = some (ai 16 (g.2.2 0) 512 gd) → M sA = some (ai 17 (g.2.2 0) 512 gs) → k ≤ c → (∀ i, i < k → gd i = fd i ∧ gs i = fs i) → (∀ i, k ≤ i → i < c → gd (i + 1) = fd i ∧ gs (i + 1) = fs i ∧ x < fd i) → (∀ t, t ≠ 6 → t ≠ 16 → t ≠ 17 → mm_same t M0 M) → k + 1 ≤ n → lv_has ls 4 [(0, .ref o), (1, .int y), (2, .int x), (3, .int (nI k))] → W pG l eV (rk 0 0 0 0) s m args below meth cdx H locs 0 0 Q (F0 m 16 ls []) := by
      intro n
      induction n with
      | zero => exact fun gd gs k M H locs ls _ hMo hMd hMs hk hlo hhi hs hfu _ => absurd hfu (by omega)
      | succ n ih =>
        intro gd gs k M H locs ls hZ hMo hMd hMs hk hlo hhi hs hfu hl
        have J66 : ∀  (ls : Array Slot), k = 0 ∨ fd (k - 1) ≤ x → lv_has ls 4 [(0, .ref o), (1, .int y), (2, .int x), (3, .int (nI k))] → W pG l eV (rk 0 0 0 0) s m args below meth cdx H locs 0 0 Q (F0 m 66 ls []) := by
          intro  ls hst hl
          refine lv_aload_n hx hb d_Deliv_addDelivery_66 rfl (lv_at hl 0 rfl) ?_
          refine mm_get E hZ cl_Deliv fl_Deliv_9 (by decide) hMo rfl d_Deliv_addDelivery_67 ?_
          refine lv_iload_n hx hb d_Deliv_addDelivery_70 rfl (lv_at hl 3 rfl) ?_
          refine lv_iload_n hx hb d_Deliv_addDelivery_71 rfl (lv_at hl 2 rfl) ?_
          refine mm_iast (t0 := 0) E hZ hMd rfl (by decide) rfl (show k < 512 by omega) (by decide) d_Deliv_addDelivery_72 (fun H locs hZ => ?_)
          obtain ⟨M1, eM1⟩ : ∃ zz : mm_M, zz = mm_up M dA2 (ai 16 (g.2.2 0) 512 (va_up gd k x)) := ⟨_, rfl⟩
          have hZ : mm_S g s M1 H locs := by rw [eM1]; exact hZ
          have h2 := (congrFun eM1 o).trans ((mm_ne _ _ (mm_tag hMo hMd (by decide))).trans hMo)
          have h3 := (congrFun eM1 sA).trans ((mm_ne _ _ (mm_tag hMs hMd (by decide))).trans hMs)
          have h4 := (congrFun eM1 dA2).trans (mm_self _ _ _)
          refine lv_aload_n hx hb d_Deliv_addDelivery_73 rfl (lv_at hl 0 rfl) ?_
          refine mm_get E hZ cl_Deliv fl_Deliv_15 (by decide) h2 rfl d_Deliv_addDelivery_74 ?_
          refine lv_iload_n hx hb d_Deliv_addDelivery_77 rfl (lv_at hl 3 rfl) ?_
          refine lv_iload_n hx hb d_Deliv_addDelivery_78 rfl (lv_at hl 1 rfl) ?_
          refine mm_iast (t0 := 0) E hZ h3 rfl (by decide) rfl (show k < 512 by omega) (by decide) d_Deliv_addDelivery_79 (fun H locs hZ => ?_)
          obtain ⟨M5, eM5⟩ : ∃ zz : mm_M, zz = mm_up M1 sA (ai 17 (g.2.2 0) 512 (va_up gs k y)) := ⟨_, rfl⟩
          have hZ : mm_S g s M5 H locs := by rw [eM5]; exact hZ
          have h6 := (congrFun eM5 o).trans ((mm_ne _ _ (mm_tag h2 h3 (by decide))).trans h2)
          have h7 := (congrFun eM5 dA2).trans ((mm_ne _ _ (mm_tag h4 h3 (by decide))).trans h4)
          have h8 := (congrFun eM5 sA).trans (mm_self _ _ _)
          refine lv_aload_n hx hb d_Deliv_addDelivery_80 rfl (lv_at hl 0 rfl) ?_
          refine lv_dup hx hb d_Deliv_addDelivery_81 rfl ?_
          refine mm_get E hZ cl_Deliv fl_Deliv_18 (by decide) h6 rfl d_Deliv_addDelivery_82 ?_
          refine lv_iconst (v := 1) hx hb d_Deliv_addDelivery_85 (by decide) ?_
          refine lv_iadd hx hb d_Deliv_addDelivery_86 ?_
          refine mm_put E hZ cl_Deliv fl_Deliv_18 (by decide) rfl h6 (by decide) rfl rfl (Nat.le_of_ble_eq_true rfl) d_Deliv_addDelivery_87 (fun H locs hZ => ?_)
          obtain ⟨M9, eM9⟩ : ∃ zz : mm_M, zz = mm_up M5 o (ob 6 3 [.ref dA2, .ref sA, .int ((nI c) + 1)]) := ⟨_, rfl⟩
          have hZ : mm_S g s M9 H locs := by rw [eM9]; exact hZ
          have h10 := (congrFun eM9 dA2).trans ((mm_ne _ _ (mm_tag h7 h6 (by decide))).trans h7)
          have h11 := (congrFun eM9 sA).trans ((mm_ne _ _ (mm_tag h8 h6 (by decide))).trans h8)
          have h12 := (congrFun eM9 o).trans (mm_self _ _ _)
          exact mm_vret E hr hlk eQ hZ d_Deliv_addDelivery_90 ⟨rfl, _, _, ⟨by rw [← nI_1]; exact h12, h10, h11⟩, ⟨k, hk, fun i z => ⟨(va_up_ne _ _ (by omega)).trans (hlo i z).1, (va_up_ne _ _ (by omega)).trans (hlo i z).2⟩, va_up_self _ _ _, va_up_self _ _ _, fun i z1 z2 => ⟨(va_up_ne _ _ (by omega)).trans (hhi i z1 z2).1, (va_up_ne _ _ (by omega)).trans (hhi i z1 z2).2.1, (hhi i z1 z2).2.2⟩, hst⟩, fun t u6 u16 u17 => by
            have q1 := (hs t u6 u16 u17).tr (mm_same.up hMd u16 (ai 16 (g.2.2 0) 512 (va_up gd k x)))
            rw [← eM1] at q1
            have q2 := q1.tr (mm_same.up ((congrFun eM1 sA).trans ((mm_ne _ _ (mm_tag hMs hMd (by decide))).trans hMs)) u17 (ai 17 (g.2.2 0) 512 (va_up gs k y)))
            rw [← eM5] at q2
            rw [eM9]
            exact q2.tr (mm_same.up ((congrFun eM5 o).trans ((mm_ne _ _ (mm_tag ((congrFun eM1 o).trans ((mm_ne _ _ (mm_tag hMo hMd (by decide))).trans hMo)) ((congrFun eM1 sA).trans ((mm_ne _ _ (mm_tag hMs hMd (by decide))).trans hMs)) (by decide))).trans ((congrFun eM1 o).trans ((mm_ne _ _ (mm_tag hMo hMd (by decide))).trans hMo)))) u6 _)⟩
        refine lv_iload_n hx hb d_Deliv_addDelivery_16 rfl (lv_at hl 3 rfl) ?_
        refine lv_if_le (tgt := 66) hx hb d_Deliv_addDelivery_17 (by decide) (fun c17 => ?_) (fun c17 => ?_)
        · exact J66 ls (Or.inl (by
            rcases Nat.eq_zero_or_pos k with z | z
            · exact z
            · exact absurd c17 (nI_nle z (by omega)))) (lv_sub hl [0, 1, 2, 3] rfl)
        · have hk0 : 0 < k := by
            rcases Nat.eq_zero_or_pos k with z | z
            · exact absurd (show nI k ≤ 0 by rw [z]; decide) c17
            · exact z
          refine lv_aload_n hx hb d_Deliv_addDelivery_20 rfl (lv_at hl 0 rfl) ?_
          refine mm_get E hZ cl_Deliv fl_Deliv_9 (by decide) hMo rfl d_Deliv_addDelivery_21 ?_
          refine lv_iload_n hx hb d_Deliv_addDelivery_24 rfl (lv_at hl 3 rfl) ?_
          refine lv_iconst (v := 1) hx hb d_Deliv_addDelivery_25 (by decide) ?_
          refine lv_isub hx hb d_Deliv_addDelivery_26 ?_
          refine mm_iald (t0 := 0) E hZ hMd rfl (nI_m1 hk0) (show (k - 1) < 512 by omega) (by decide) d_Deliv_addDelivery_27 ?_
          refine lv_iload_n hx hb d_Deliv_addDelivery_28 rfl (lv_at hl 2 rfl) ?_
          refine lv_icmp_le (tgt := 66) hx hb d_Deliv_addDelivery_29 (by decide) (fun c29 => ?_) (fun c29 => ?_)
          · exact J66 ls (Or.inr (by rw [← (hlo _ (show k - 1 < k by omega)).1]; exact c29)) (lv_sub hl [0, 1, 2, 3] rfl)
          · refine lv_aload_n hx hb d_Deliv_addDelivery_32 rfl (lv_at hl 0 rfl) ?_
            refine mm_get E hZ cl_Deliv fl_Deliv_9 (by decide) hMo rfl d_Deliv_addDelivery_33 ?_
            refine lv_iload_n hx hb d_Deliv_addDelivery_36 rfl (lv_at hl 3 rfl) ?_
            refine lv_aload_n hx hb d_Deliv_addDelivery_37 rfl (lv_at hl 0 rfl) ?_
            refine mm_get E hZ cl_Deliv fl_Deliv_9 (by decide) hMo rfl d_Deliv_addDelivery_38 ?_
            refine lv_iload_n hx hb d_Deliv_addDelivery_41 rfl (lv_at hl 3 rfl) ?_
            refine lv_iconst (v := 1) hx hb d_Deliv_addDelivery_42 (by decide) ?_
            refine lv_isub hx hb d_Deliv_addDelivery_43 ?_
            refine mm_iald (t0 := 0) E hZ hMd rfl (nI_m1 hk0) (show (k - 1) < 512 by omega) (by decide) d_Deliv_addDelivery_44 ?_
            refine mm_iast (t0 := 0) E hZ hMd rfl (by decide) rfl (show k < 512 by omega) (by decide) d_Deliv_addDelivery_45 (fun H locs hZ => ?_)
            obtain ⟨M13, eM13⟩ : ∃ zz : mm_M, zz = mm_up M dA2 (ai 16 (g.2.2 0) 512 (va_up gd k (gd (k - 1)))) := ⟨_, rfl⟩
            have hZ : mm_S g s M13 H locs := by rw [eM13]; exact hZ
            have h14 := (congrFun eM13 o).trans ((mm_ne _ _ (mm_tag hMo hMd (by decide))).trans hMo)
            have h15 := (congrFun eM13 sA).trans ((mm_ne _ _ (mm_tag hMs hMd (by decide))).trans hMs)
            have h16 := (congrFun eM13 dA2).trans (mm_self _ _ _)
            refine lv_aload_n hx hb d_Deliv_addDelivery_46 rfl (lv_at hl 0 rfl) ?_
            refine mm_get E hZ cl_Deliv fl_Deliv_15 (by decide) h14 rfl d_Deliv_addDelivery_47 ?_
            refine lv_iload_n hx hb d_Deliv_addDelivery_50 rfl (lv_at hl 3 rfl) ?_
            refine lv_aload_n hx hb d_Deliv_addDelivery_51 rfl (lv_at hl 0 rfl) ?_
            refine mm_get E hZ cl_Deliv fl_Deliv_15 (by decide) h14 rfl d_Deliv_addDelivery_52 ?_
            refine lv_iload_n hx hb d_Deliv_addDelivery_55 rfl (lv_at hl 3 rfl) ?_
            refine lv_iconst (v := 1) hx hb d_Deliv_addDelivery_56 (by decide) ?_
            refine lv_isub hx hb d_Deliv_addDelivery_57 ?_
            refine mm_iald (t0 := 0) E hZ h15 rfl (nI_m1 hk0) (show (k - 1) < 512 by omega) (by decide) d_Deliv_addDelivery_58 ?_
            refine mm_iast (t0 := 0) E hZ h15 rfl (by decide) rfl (show k < 512 by omega) (by decide) d_Deliv_addDelivery_59 (fun H locs hZ => ?_)
            obtain ⟨M17, eM17⟩ : ∃ zz : mm_M, zz = mm_up M13 sA (ai 17 (g.2.2 0) 512 (va_up gs k (gs (k - 1)))) := ⟨_, rfl⟩
            have hZ : mm_S g s M17 H locs := by rw [eM17]; exact hZ
            have h18 := (congrFun eM17 o).trans ((mm_ne _ _ (mm_tag h14 h15 (by decide))).trans h14)
            have h19 := (congrFun eM17 dA2).trans ((mm_ne _ _ (mm_tag h16 h15 (by decide))).trans h16)
            have h20 := (congrFun eM17 sA).trans (mm_self _ _ _)
            refine lv_iinc (v := (nI k) + (-1)) (lv' := [(3, .int ((nI k) + (-1))), (0, .ref o), (1, .int y), (2, .int x)]) hx hb d_Deliv_addDelivery_60 hl (k := 3) rfl rfl (by decide) rfl (fun ls hl => ?_)
            refine lv_goto (tgt := 16) hx hb d_Deliv_addDelivery_63 (by decide) ?_
            rw [show nI k + (-1) = nI (k - 1) from sb_m1 hk0] at hl
            have hs2 : ∀ t, t ≠ 6 → t ≠ 16 → t ≠ 17 → mm_same t M0 M17 := fun t u6 u16 u17 => by
              have q1 := (hs t u6 u16 u17).tr (mm_same.up hMd u16 (ai 16 (g.2.2 0) 512 (va_up gd k (gd (k - 1)))))
              rw [← eM13] at q1
              rw [eM17]
              exact q1.tr (mm_same.up ((congrFun eM13 sA).trans ((mm_ne _ _ (mm_tag hMs hMd (by decide))).trans hMs)) u17 _)
            skip
            exact ih _ _ (k - 1) M17 H locs ls hZ h18 h19 h20 (by omega) (fun i z => ⟨(va_up_ne _ _ (by omega)).trans (hlo i (by omega)).1, (va_up_ne _ _ (by omega)).trans (hlo i (by omega)).2⟩) (fun i z1 z2 => by
              by_cases e : i = k - 1
              · subst e
                rw [show k - 1 + 1 = k by omega, va_up_self, va_up_self]
                exact ⟨(hlo _ (by omega)).1, (hlo _ (by omega)).2, by rw [← (hlo _ (show k - 1 < k by omega)).1]; exact Int32.not_le.mp c29⟩
              · rw [va_up_ne _ _ (by omega), va_up_ne _ _ (by omega)]
                exact hhi i (by omega) z2) hs2 (by omega) (lv_sub hl [1, 2, 3, 0] rfl)
    exact loop (c + 1) fd fs c M0 s.heap [] ls hZ ho hdA hsA (Nat.le_refl _) (fun i _ => ⟨rfl, rfl⟩) (fun i z1 z2 => absurd z1 (by omega)) (fun t _ _ _ => mm_same.rf) (Nat.le_refl _) (lv_sub hl [1, 2, 3, 0] rfl)
  · exact absurd (show nI c < nI 512 from nI_lt hc (by decide)) c7
