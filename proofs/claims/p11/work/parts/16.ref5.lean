/-! THE REFERENCE: percentile, cluster -/
/-- how many of the first k are not above v -/
def mny (f : Nat → Int32) (v : Int32) : Nat → Nat
  | 0 => 0
  | k + 1 => if f k ≤ v then mny f v k + 1 else mny f v k
theorem mny_le (f : Nat → Int32) (v : Int32) (k : Nat) : mny f v k ≤ k := by
  induction k with
  | zero => exact Nat.le_refl _
  | succ k ih => unfold mny; split <;> omega
/-- the least of the first k that rk of all n are not above -/
def bst (f : Nat → Int32) (n rk : Nat) : Nat → Int32
  | 0 => 2147483647
  | k + 1 => if rk ≤ mny f (f k) n ∧ f k < bst f n rk k then f k else bst f n rk k
def rkv (n u : Nat) : Nat := if (n * u + 999) / 1000 < 1 then 1 else (n * u + 999) / 1000
theorem nI_42 (j k : Nat) : 4200 * nI j + nI k = nI (4200 * j + k) := by rw [show (4200 : Int32) = nI 4200 from rfl, pk_mul, nI_add]
def pv : Option Nat → Int32
  | none => -1
  | some p => nI p
def obf1 (I : Nat → Nat → Int32) : Option Nat → Nat → Bool
  | none, _ => true
  | some a, p => decide (bf I a p)
def obf2 (I : Nat → Nat → Int32) (p : Nat) : Option Nat → Bool
  | none => true
  | some b => decide (bf I p b)
/-- the first of the clusters below the place p that come behind pl -/
def sel (I : Nat → Nat → Int32) (pl : Option Nat) : Nat → Option Nat
  | 0 => none
  | p + 1 => if (¬ I 21 p ≤ 2) ∧ obf1 I pl p = true ∧ obf2 I p (sel I pl p) = true then some p else sel I pl p
theorem sel_lt {I : Nat → Nat → Int32} {pl : Option Nat} : ∀ {p b : Nat}, sel I pl p = some b → b < p
  | 0, b, h => by cases h
  | p + 1, b, h => by
    unfold sel at h
    split at h
    · cases h; omega
    · have := sel_lt h; omega
/-- the k-th of the clusters in their order (from 1 on) -/
def clp (I : Nat → Nat → Int32) : Nat → Option Nat
  | 0 => none
  | k + 1 => if k = 0 then sel I none 50 else match clp I k with
    | none => none
    | some a => sel I (some a) 50
theorem clp_lt {I : Nat → Nat → Int32} : ∀ {k p : Nat}, clp I k = some p → p < 50
  | 0, p, h => by cases h
  | k + 1, p, h => by
    unfold clp at h
    split at h
    · exact sel_lt h
    · split at h
      · cases h
      · exact sel_lt h
theorem clp_none {I : Nat → Nat → Int32} {k : Nat} (hk : 0 < k) (h : clp I k = none) : ∀ j, k ≤ j → clp I j = none := by
  intro j
  induction j with
  | zero => intro z; omega
  | succ j ih =>
    intro z
    rcases Nat.lt_or_ge k (j + 1) with y | y
    · unfold clp
      rw [if_neg (by omega), ih (by omega)]
    · rw [show j + 1 = k by omega]; exact h
/-- where the search for the i-th ends -/
def clFin (I : Nat → Nat → Int32) (i wh : Int32) (o : Option Nat) : Prop := ((¬ ∃ v : Nat, v < 3 ∧ wh = nI v) ∧ o = none) ∨ ((∃ v : Nat, v < 3 ∧ wh = nI v) ∧ ((i < 0 ∧ o = none) ∨ ∃ ii : Nat, ii < 2 ^ 31 ∧ i = nI ii ∧ o = clp I (ii + 1)))
def clA (I : Nat → Nat → Int32) (wh : Int32) : Option Nat → Int32
  | none => -1
  | some p => if wh = 0 then nI p else if wh = 1 then I 21 p else I 20 p
theorem pv_neg {o : Option Nat} (ho : ∀ p, o = some p → p < 50) (h : pv o < 0) : o = none := by
  cases o with
  | none => rfl
  | some p => exact absurd h (nI_pos (by have := ho p rfl; omega))
theorem pv_pos {o : Option Nat} (h : ¬ pv o < 0) : ∃ p, o = some p := by
  cases o with
  | none => exact absurd (by decide) h
  | some p => exact ⟨p, rfl⟩
set_option maxHeartbeats 4000000 in
set_option maxRecDepth 100000 in
theorem c_Mod_percentile (l : Launch) (g : mm_G) {M : mm_M} {q : Nat} {ad : Nat → Nat} {I : Nat → Nat → Int32} {L : Nat → Nat → Int64} {S : Nat → Int32} {ck : Int64} (h0 : Rs g M q ad I L S ck) (i th : Int32) {cn : Nat → Nat} (hc : ∀ j, j ≤ 4 → I 22 j = nI (cn j) ∧ cn j ≤ 512) : Cl l g y_Mod_percentile b_Mod_percentile 10 (rk 1 25 0 0) M [.ref q, .int i, .int th] (fun r M' => Rq g M M' q ad I L (va_up S 0 0) ck ∧ (((¬ ∃ j u, j ≤ 4 ∧ u ≤ 1000 ∧ i = nI j ∧ th = nI u) ∧ r = (-102)) ∨ ∃ j u, j ≤ 4 ∧ u ≤ 1000 ∧ i = nI j ∧ th = nI u ∧ ((cn j = 0 ∧ r = (-1)) ∨ (0 < cn j ∧ r = (bst (fun z => I 23 (4200 * j + z)) (cn j) (rkv (cn j) u) (cn j)).toInt64)))) := by
  refine mm_enter (by decide) (Nat.le_of_ble_eq_true rfl) (fun pG eV s m args below meth cdx ls Q E hml hr hlk hnm hZ hl eQ => ?_)
  have hx := E.1
  have hb := E.2.1
  have hl : lv_has ls 10 [(0, .ref q), (1, .int i), (2, .int th)] := hl
  have hR := h0.q
  refine lv_aload_n hx hb d_Mod_percentile_0 rfl (lv_at hl 0 rfl) ?_
  refine lv_iconst (v := 0) hx hb d_Mod_percentile_1 (by decide) ?_
  refine rr_put0 E hZ hR fl_Mod_72 d_Mod_percentile_2 (fun M H locs hZ hR => ?_)
  refine lv_iload_n hx hb d_Mod_percentile_5 rfl (lv_at hl 1 rfl) ?_
  refine lv_i2l hx hb d_Mod_percentile_6 rfl ?_
  refine lv_lconst (v := 0) hx hb d_Mod_percentile_7 (by decide) ?_
  refine lv_ldc2 (v := 4) hx hb E.2.2.1 (E.2.2.2.1 _ w_703) d_Mod_percentile_8 ?_
  refine mm_calli (mm_runS (As := [.long i.toInt64, .long 0, .long 4]) (rest := []) E hZ hml hl.1 lk_Mod_78 me_Mod_isIn st_Mod_isIn (c_Mod_isIn l g _ i.toInt64 0 4) ⟨Nat.le_of_ble_eq_true rfl, Nat.le_of_ble_eq_true rfl⟩ rfl (Nat.le_of_ble_eq_true rfl) d_Mod_percentile_11 ⟨Nat.le_of_ble_eq_true rfl, Nat.le_of_ble_eq_true rfl⟩) hZ (fun r1 M1 H locs hp hZ => ?_)
  rw [hp.1] at hZ
  replace hp := hp.2
  have hp1 := hp
  clear hp
  refine lv_if_eq (tgt := 29) hx hb d_Mod_percentile_14 (by decide) (fun c14 => ?_) (fun c14 => ?_)
  · refine lv_ldc2 (v := (-102)) hx hb E.2.2.1 (E.2.2.2.1 _ w_761) d_Mod_percentile_29 ?_
    exact mm_lret (v := (-102)) E hr hlk eQ hZ d_Mod_percentile_32 ⟨_, rfl, hR, Or.inl ⟨fun ⟨j, u, hj, _, e, _⟩ => out_nat (n := 4) (by decide) (by decide) (b32_eq0.mp (hp1 ▸ c14)) j hj e, rfl⟩⟩
  · refine lv_iload_n hx hb d_Mod_percentile_17 rfl (lv_at hl 2 rfl) ?_
    refine lv_i2l hx hb d_Mod_percentile_18 rfl ?_
    refine lv_lconst (v := 0) hx hb d_Mod_percentile_19 (by decide) ?_
    refine lv_ldc2 (v := 1000) hx hb E.2.2.1 (E.2.2.2.1 _ w_766) d_Mod_percentile_20 ?_
    refine mm_calli (mm_runS (As := [.long th.toInt64, .long 0, .long 1000]) (rest := []) E hZ hml hl.1 lk_Mod_78 me_Mod_isIn st_Mod_isIn (c_Mod_isIn l g _ th.toInt64 0 1000) ⟨Nat.le_of_ble_eq_true rfl, Nat.le_of_ble_eq_true rfl⟩ rfl (Nat.le_of_ble_eq_true rfl) d_Mod_percentile_23 ⟨Nat.le_of_ble_eq_true rfl, Nat.le_of_ble_eq_true rfl⟩) hZ (fun r2 M1 H locs hp hZ => ?_)
    rw [hp.1] at hZ
    replace hp := hp.2
    have hp2 := hp
    clear hp
    refine lv_if_ne (tgt := 33) hx hb d_Mod_percentile_26 (by decide) (fun c26 => ?_) (fun c26 => ?_)
    · obtain ⟨j, hj, rfl⟩ := in_nat (n := 4) rfl (by decide) (b32_ne0 (hp1 ▸ c14))
      obtain ⟨u, hu, rfl⟩ := in_nat (n := 1000) rfl (by decide) (b32_ne0 (hp2 ▸ c26))
      obtain ⟨hcj, hc5⟩ := hc j hj
      refine lv_aload_n hx hb d_Mod_percentile_33 rfl (lv_at hl 0 rfl) ?_
      refine mm_get (v := .ref (ad 22)) E hZ cl_Mod fl_Mod_63 (by decide) hR.1.1 rfl d_Mod_percentile_34 ?_
      refine lv_iload_n hx hb d_Mod_percentile_37 rfl (lv_at hl 1 rfl) ?_
      refine rr_iald 22 rfl rfl E hZ hR rfl (show j < 5 by omega) d_Mod_percentile_38 ?_
      rw [hcj]
      refine lv_istore_n (lv' := [(3, .int (nI (cn j))), (0, .ref q), (1, .int (nI j)), (2, .int (nI u))]) hx hb d_Mod_percentile_39 rfl hl (by decide) rfl (fun ls hl => ?_)
      refine lv_iload_n hx hb d_Mod_percentile_40 rfl (lv_at hl 0 rfl) ?_
      refine lv_if_ne (tgt := 48) hx hb d_Mod_percentile_41 (by decide) (fun c41 => ?_) (fun c41 => ?_)
      · have hz : 0 < cn j := by
          rcases Nat.eq_zero_or_pos (cn j) with z | z
          · exact absurd (by rw [z]; rfl) c41
          · exact z
        have hmu : cn j * u ≤ 512 * 1000 := Nat.mul_le_mul hc5 hu
        refine lv_iload_n hx hb d_Mod_percentile_48 rfl (lv_at hl 0 rfl) ?_
        refine lv_iload_n hx hb d_Mod_percentile_49 rfl (lv_at hl 3 rfl) ?_
        refine lv_imul hx hb d_Mod_percentile_50 ?_
        refine lv_sipush (v := 999) hx hb d_Mod_percentile_51 (by decide) ?_
        refine lv_iadd hx hb d_Mod_percentile_54 ?_
        refine lv_sipush (v := 1000) hx hb d_Mod_percentile_55 (by decide) ?_
        rw [pk_mul, show (999 : Int32) = nI 999 from rfl, nI_add, show (1000 : Int32) = nI 1000 from rfl]
        refine lv_idiv hx hb d_Mod_percentile_58 (by decide) ?_
        rw [pk_div (by omega) (by decide) (by decide)]
        refine lv_istore (lv' := [(4, .int (nI ((cn j * u + 999) / 1000))), (3, .int (nI (cn j))), (0, .ref q), (1, .int (nI j)), (2, .int (nI u))]) hx hb d_Mod_percentile_59 hl (by decide) rfl (fun ls hl => ?_)
        refine lv_iload hx hb d_Mod_percentile_61 (lv_at hl 0 rfl) ?_
        refine lv_iconst (v := 1) hx hb d_Mod_percentile_63 (by decide) ?_
        have J73 : ∀ (v : Int32) (ls : Array Slot), v = nI (rkv (cn j) u) → lv_has ls 10 [(0, .ref q), (1, .int (nI j)), (3, .int (nI (cn j)))] → W pG l eV (rk 1 25 0 0) s m args below meth cdx H locs 0 0 Q (F0 m 73 ls [.int v]) := by
          intro v ls hv hl
          subst hv
          refine lv_istore (lv' := [(4, .int (nI (rkv (cn j) u))), (0, .ref q), (1, .int (nI j)), (3, .int (nI (cn j)))]) hx hb d_Mod_percentile_73 hl (by decide) rfl (fun ls hl => ?_)
          refine lv_ldc (v := 2147483647) hx hb E.2.2.1 (E.2.2.2.1 _ w_767) d_Mod_percentile_75 ?_
          refine lv_istore (lv' := [(5, .int 2147483647), (4, .int (nI (rkv (cn j) u))), (0, .ref q), (1, .int (nI j)), (3, .int (nI (cn j)))]) hx hb d_Mod_percentile_77 hl (by decide) rfl (fun ls hl => ?_)
          refine lv_iconst (v := 0) hx hb d_Mod_percentile_79 (by decide) ?_
          refine lv_istore (lv' := [(6, .int 0), (5, .int 2147483647), (4, .int (nI (rkv (cn j) u))), (0, .ref q), (1, .int (nI j)), (3, .int (nI (cn j)))]) hx hb d_Mod_percentile_80 hl (by decide) rfl (fun ls hl => ?_)
          have loop : ∀ (n : Nat) (k : Nat) (be : Int32) (ls : Array Slot), k ≤ cn j → be = bst (fun z => I 23 (4200 * j + z)) (cn j) (rkv (cn j) u) k → cn j + 1 ≤ k + n → lv_has ls 10 [(0, .ref q), (1, .int (nI j)), (3, .int (nI (cn j))), (4, .int (nI (rkv (cn j) u))), (5, .int be), (6, .int (nI k))] → W pG l eV (rk 1 25 0 0) s m args below meth cdx H locs 0 0 Q (F0 m 82 ls []) := by
            intro n
            induction n with
            | zero => exact fun k be ls hkc hbe hfu _ => absurd hfu (by omega)
            | succ n ih =>
              intro k be ls hkc hbe hfu hl
              refine lv_iload hx hb d_Mod_percentile_82 (lv_at hl 5 rfl) ?_
              refine lv_iload_n hx hb d_Mod_percentile_84 rfl (lv_at hl 2 rfl) ?_
              refine lv_icmp_ge (tgt := 179) hx hb d_Mod_percentile_85 (by decide) (fun c85 => ?_) (fun c85 => ?_)
              · have hk : k = cn j := by
                  rcases Nat.lt_or_ge k (cn j) with z | z
                  · exact absurd c85 (nI_ge z (by omega))
                  · omega
                rw [hk] at hbe
                refine lv_iload hx hb d_Mod_percentile_179 (lv_at hl 4 rfl) ?_
                refine lv_i2l hx hb d_Mod_percentile_181 rfl ?_
                exact mm_lret (v := be.toInt64) E hr hlk eQ hZ d_Mod_percentile_182 ⟨_, rfl, hR, Or.inr ⟨j, u, hj, hu, rfl, rfl, Or.inr ⟨hz, by rw [hbe]⟩⟩⟩
              · have hk : k < cn j := by
                  rcases Nat.lt_or_ge k (cn j) with z | z
                  · exact z
                  · exact absurd (nI_le z (by omega)) c85
                refine lv_aload_n hx hb d_Mod_percentile_88 rfl (lv_at hl 0 rfl) ?_
                refine mm_get (v := .ref (ad 23)) E hZ cl_Mod fl_Mod_66 (by decide) hR.1.1 rfl d_Mod_percentile_89 ?_
                refine lv_sipush (v := 4200) hx hb d_Mod_percentile_92 (by decide) ?_
                refine lv_iload_n hx hb d_Mod_percentile_95 rfl (lv_at hl 1 rfl) ?_
                refine lv_imul hx hb d_Mod_percentile_96 ?_
                refine lv_iload hx hb d_Mod_percentile_97 (lv_at hl 5 rfl) ?_
                refine lv_iadd hx hb d_Mod_percentile_99 ?_
                refine rr_iald 23 rfl rfl E hZ hR (nI_42 j k) (show (4200 * j + k) < 21000 by omega) d_Mod_percentile_100 ?_
                refine lv_istore (lv' := [(7, .int (I 23 (4200 * j + k))), (0, .ref q), (1, .int (nI j)), (3, .int (nI (cn j))), (4, .int (nI (rkv (cn j) u))), (5, .int be), (6, .int (nI k))]) hx hb d_Mod_percentile_101 hl (by decide) rfl (fun ls hl => ?_)
                refine lv_iconst (v := 0) hx hb d_Mod_percentile_103 (by decide) ?_
                refine lv_istore (lv' := [(8, .int 0), (7, .int (I 23 (4200 * j + k))), (0, .ref q), (1, .int (nI j)), (3, .int (nI (cn j))), (4, .int (nI (rkv (cn j) u))), (5, .int be), (6, .int (nI k))]) hx hb d_Mod_percentile_104 hl (by decide) rfl (fun ls hl => ?_)
                refine lv_iconst (v := 0) hx hb d_Mod_percentile_106 (by decide) ?_
                refine lv_istore (lv' := [(9, .int 0), (8, .int 0), (7, .int (I 23 (4200 * j + k))), (0, .ref q), (1, .int (nI j)), (3, .int (nI (cn j))), (4, .int (nI (rkv (cn j) u))), (5, .int be), (6, .int (nI k))]) hx hb d_Mod_percentile_107 hl (by decide) rfl (fun ls hl => ?_)
                have J171 : ∀ (v : Int32) (ls : Array Slot), v = bst (fun z => I 23 (4200 * j + z)) (cn j) (rkv (cn j) u) (k + 1) → lv_has ls 10 [(0, .ref q), (1, .int (nI j)), (3, .int (nI (cn j))), (4, .int (nI (rkv (cn j) u))), (5, .int be), (6, .int (nI k))] → W pG l eV (rk 1 25 0 0) s m args below meth cdx H locs 0 0 Q (F0 m 171 ls [.int v]) := by
                  intro v ls hv hl
                  refine lv_istore (lv' := [(5, .int v), (0, .ref q), (1, .int (nI j)), (3, .int (nI (cn j))), (4, .int (nI (rkv (cn j) u))), (6, .int (nI k))]) hx hb d_Mod_percentile_171 hl (by decide) rfl (fun ls hl => ?_)
                  refine lv_iinc (v := (nI k) + 1) (lv' := [(6, .int ((nI k) + 1)), (5, .int v), (0, .ref q), (1, .int (nI j)), (3, .int (nI (cn j))), (4, .int (nI (rkv (cn j) u)))]) hx hb d_Mod_percentile_173 hl (k := 5) rfl rfl (by decide) rfl (fun ls hl => ?_)
                  refine lv_goto (tgt := 82) hx hb d_Mod_percentile_176 (by decide) ?_
                  rw [nI_1] at hl
                  exact ih (k + 1) v ls (by omega) hv (by omega) (lv_sub hl [2, 3, 4, 5, 1, 0] rfl)
                have loop2 : ∀ (n2 : Nat) (z : Nat) (ls : Array Slot), z ≤ cn j → cn j + 1 ≤ z + n2 → lv_has ls 10 [(0, .ref q), (1, .int (nI j)), (3, .int (nI (cn j))), (4, .int (nI (rkv (cn j) u))), (5, .int be), (6, .int (nI k)), (7, .int (I 23 (4200 * j + k))), (8, .int (nI (mny (fun z => I 23 (4200 * j + z)) (I 23 (4200 * j + k)) z))), (9, .int (nI z))] → W pG l eV (rk 1 25 0 0) s m args below meth cdx H locs 0 0 Q (F0 m 109 ls []) := by
                  intro n2
                  induction n2 with
                  | zero => exact fun z ls hzc hfu _ => absurd hfu (by omega)
                  | succ n2 ih2 =>
                    intro z ls hzc hfu hl
                    refine lv_iload hx hb d_Mod_percentile_109 (lv_at hl 8 rfl) ?_
                    refine lv_iload_n hx hb d_Mod_percentile_111 rfl (lv_at hl 2 rfl) ?_
                    refine lv_icmp_ge (tgt := 150) hx hb d_Mod_percentile_112 (by decide) (fun c112 => ?_) (fun c112 => ?_)
                    · have hz2 : z = cn j := by
                        rcases Nat.lt_or_ge z (cn j) with y | y
                        · exact absurd c112 (nI_ge y (by omega))
                        · omega
                      rw [hz2] at hl
                      have hml0 := mny_le (fun z => I 23 (4200 * j + z)) (I 23 (4200 * j + k)) (cn j)
                      have hrk : rkv (cn j) u < 2 ^ 31 := by unfold rkv; split <;> omega
                      refine lv_iload hx hb d_Mod_percentile_150 (lv_at hl 7 rfl) ?_
                      refine lv_iload hx hb d_Mod_percentile_152 (lv_at hl 3 rfl) ?_
                      refine lv_icmp_lt (tgt := 169) hx hb d_Mod_percentile_154 (by decide) (fun c154 => ?_) (fun c154 => ?_)
                      · refine lv_iload hx hb d_Mod_percentile_169 (lv_at hl 4 rfl) ?_
                        exact J171 _ ls (by rw [bst, if_neg (fun y => absurd y.1 (Nat.not_le.mpr ((nI_ltI (by omega) (by omega)).mp c154)))]; exact hbe) (lv_sub hl [0, 1, 2, 3, 4, 5] rfl)
                      · refine lv_iload hx hb d_Mod_percentile_157 (lv_at hl 6 rfl) ?_
                        refine lv_iload hx hb d_Mod_percentile_159 (lv_at hl 4 rfl) ?_
                        refine lv_icmp_ge (tgt := 169) hx hb d_Mod_percentile_161 (by decide) (fun c161 => ?_) (fun c161 => ?_)
                        · refine lv_iload hx hb d_Mod_percentile_169 (lv_at hl 4 rfl) ?_
                          exact J171 _ ls (by rw [bst, if_neg (fun y => absurd (hbe ▸ y.2) (Int32.not_lt.mpr c161))]; exact hbe) (lv_sub hl [0, 1, 2, 3, 4, 5] rfl)
                        · refine lv_iload hx hb d_Mod_percentile_164 (lv_at hl 6 rfl) ?_
                          refine lv_goto (tgt := 171) hx hb d_Mod_percentile_166 (by decide) ?_
                          exact J171 _ ls (by rw [bst, if_pos ⟨(nI_leI (by omega) (by omega)).mp (Int32.not_lt.mp c154), by rw [← hbe]; exact Int32.not_le.mp c161⟩]) (lv_sub hl [0, 1, 2, 3, 4, 5] rfl)
                    · have hz2 : z < cn j := by
                        rcases Nat.lt_or_ge z (cn j) with y | y
                        · exact y
                        · exact absurd (nI_le y (by omega)) c112
                      refine lv_aload_n hx hb d_Mod_percentile_115 rfl (lv_at hl 0 rfl) ?_
                      refine mm_get (v := .ref (ad 23)) E hZ cl_Mod fl_Mod_66 (by decide) hR.1.1 rfl d_Mod_percentile_116 ?_
                      refine lv_sipush (v := 4200) hx hb d_Mod_percentile_119 (by decide) ?_
                      refine lv_iload_n hx hb d_Mod_percentile_122 rfl (lv_at hl 1 rfl) ?_
                      refine lv_imul hx hb d_Mod_percentile_123 ?_
                      refine lv_iload hx hb d_Mod_percentile_124 (lv_at hl 8 rfl) ?_
                      refine lv_iadd hx hb d_Mod_percentile_126 ?_
                      refine rr_iald 23 rfl rfl E hZ hR (nI_42 j z) (show (4200 * j + z) < 21000 by omega) d_Mod_percentile_127 ?_
                      refine lv_iload hx hb d_Mod_percentile_128 (lv_at hl 6 rfl) ?_
                      refine lv_icmp_gt (tgt := 140) hx hb d_Mod_percentile_130 (by decide) (fun c130 => ?_) (fun c130 => ?_)
                      · refine lv_iload hx hb d_Mod_percentile_140 (lv_at hl 7 rfl) ?_
                        refine lv_istore (lv' := [(8, .int (nI (mny (fun z => I 23 (4200 * j + z)) (I 23 (4200 * j + k)) z))), (0, .ref q), (1, .int (nI j)), (3, .int (nI (cn j))), (4, .int (nI (rkv (cn j) u))), (5, .int be), (6, .int (nI k)), (7, .int (I 23 (4200 * j + k))), (9, .int (nI z))]) hx hb d_Mod_percentile_142 hl (by decide) rfl (fun ls hl => ?_)
                        refine lv_iinc (v := (nI z) + 1) (lv' := [(9, .int ((nI z) + 1)), (8, .int (nI (mny (fun z => I 23 (4200 * j + z)) (I 23 (4200 * j + k)) z))), (0, .ref q), (1, .int (nI j)), (3, .int (nI (cn j))), (4, .int (nI (rkv (cn j) u))), (5, .int be), (6, .int (nI k)), (7, .int (I 23 (4200 * j + k)))]) hx hb d_Mod_percentile_144 hl (k := 8) rfl rfl (by decide) rfl (fun ls hl => ?_)
                        refine lv_goto (tgt := 109) hx hb d_Mod_percentile_147 (by decide) ?_
                        rw [nI_1] at hl
                        have hm : mny (fun z => I 23 (4200 * j + z)) (I 23 (4200 * j + k)) (z + 1) = mny (fun z => I 23 (4200 * j + z)) (I 23 (4200 * j + k)) z := by rw [mny, if_neg (Int32.not_le.mpr c130)]
                        rw [← hm] at hl
                        exact ih2 (z + 1) ls (by omega) (by omega) (lv_sub hl [2, 3, 4, 5, 6, 7, 8, 1, 0] rfl)
                      · refine lv_iload hx hb d_Mod_percentile_133 (lv_at hl 7 rfl) ?_
                        refine lv_iconst (v := 1) hx hb d_Mod_percentile_135 (by decide) ?_
                        refine lv_iadd hx hb d_Mod_percentile_136 ?_
                        refine lv_goto (tgt := 142) hx hb d_Mod_percentile_137 (by decide) ?_
                        refine lv_istore (lv' := [(8, .int ((nI (mny (fun z => I 23 (4200 * j + z)) (I 23 (4200 * j + k)) z)) + 1)), (0, .ref q), (1, .int (nI j)), (3, .int (nI (cn j))), (4, .int (nI (rkv (cn j) u))), (5, .int be), (6, .int (nI k)), (7, .int (I 23 (4200 * j + k))), (9, .int (nI z))]) hx hb d_Mod_percentile_142 hl (by decide) rfl (fun ls hl => ?_)
                        refine lv_iinc (v := (nI z) + 1) (lv' := [(9, .int ((nI z) + 1)), (8, .int ((nI (mny (fun z => I 23 (4200 * j + z)) (I 23 (4200 * j + k)) z)) + 1)), (0, .ref q), (1, .int (nI j)), (3, .int (nI (cn j))), (4, .int (nI (rkv (cn j) u))), (5, .int be), (6, .int (nI k)), (7, .int (I 23 (4200 * j + k)))]) hx hb d_Mod_percentile_144 hl (k := 8) rfl rfl (by decide) rfl (fun ls hl => ?_)
                        refine lv_goto (tgt := 109) hx hb d_Mod_percentile_147 (by decide) ?_
                        rw [nI_1] at hl
                        rw [nI_1] at hl
                        have hm : mny (fun z => I 23 (4200 * j + z)) (I 23 (4200 * j + k)) (z + 1) = mny (fun z => I 23 (4200 * j + z)) (I 23 (4200 * j + k)) z + 1 := by rw [mny, if_pos (Int32.not_lt.mp c130)]
                        rw [← hm] at hl
                        exact ih2 (z + 1) ls (by omega) (by omega) (lv_sub hl [2, 3, 4, 5, 6, 7, 8, 1, 0] rfl)
                exact loop2 (cn j + 1) 0 ls (Nat.zero_le _) (by omega) (lv_sub hl [3, 4, 5, 6, 7, 8, 2, 1, 0] rfl)
          exact loop (cn j + 1) 0 2147483647 ls (Nat.zero_le _) rfl (by omega) (lv_sub hl [3, 4, 5, 2, 1, 0] rfl)
        refine lv_icmp_ge (tgt := 71) hx hb d_Mod_percentile_64 (by decide) (fun c64 => ?_) (fun c64 => ?_)
        · refine lv_iload hx hb d_Mod_percentile_71 (lv_at hl 0 rfl) ?_
          exact J73 _ ls (by rw [rkv, if_neg (fun y => absurd c64 (nI_ge y (by decide)))]) (lv_sub hl [2, 3, 1] rfl)
        · refine lv_iconst (v := 1) hx hb d_Mod_percentile_67 (by decide) ?_
          refine lv_goto (tgt := 73) hx hb d_Mod_percentile_68 (by decide) ?_
          exact J73 _ ls (by rw [rkv, if_pos (by
            rcases Nat.lt_or_ge ((cn j * u + 999) / 1000) 1 with y | y
            · exact y
            · exact absurd (show nI 1 ≤ _ from nI_le y (by omega)) c64)]; rfl) (lv_sub hl [2, 3, 1] rfl)
      · have hz : cn j = 0 := (nI_eq (by omega) (by decide)).mp (show nI (cn j) = nI 0 from c41)
        refine lv_ldc2 (v := (-1)) hx hb E.2.2.1 (E.2.2.2.1 _ w_701) d_Mod_percentile_44 ?_
        exact mm_lret (v := (-1)) E hr hlk eQ hZ d_Mod_percentile_47 ⟨_, rfl, hR, Or.inr ⟨j, u, hj, hu, rfl, rfl, Or.inl ⟨hz, rfl⟩⟩⟩
    · refine lv_ldc2 (v := (-102)) hx hb E.2.2.1 (E.2.2.2.1 _ w_761) d_Mod_percentile_29 ?_
      exact mm_lret (v := (-102)) E hr hlk eQ hZ d_Mod_percentile_32 ⟨_, rfl, hR, Or.inl ⟨fun ⟨j, u, _, hu, _, e⟩ => out_nat (n := 1000) (by decide) (by decide) (b32_eq0.mp (hp2 ▸ c26)) u hu e, rfl⟩⟩
