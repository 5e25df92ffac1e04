/-! THE REFERENCE: cluster -/
set_option maxHeartbeats 4000000 in
set_option maxRecDepth 100000 in
theorem c_Mod_cluster (l : Launch) (g : mm_G) {M : mm_M} {q : Nat} {ad : Nat → Nat} {I : Nat → Nat → Int32} {L : Nat → Nat → Int64} {S : Nat → Int32} {ck : Int64} (h0 : Rs g M q ad I L S ck) (i wh : Int32) (hK : ∀ k a, clp I k = some a → k ≤ 50) : Ci l g y_Mod_cluster b_Mod_cluster 8 .int (rk 1 26 0 0) M [.ref q, .int i, .int wh] (fun r M' => Rq g M M' q ad I L (va_up S 0 0) ck ∧ ∃ o, clFin I i wh o ∧ r = clA I wh o) := by
  refine mm_enter (by decide) (Nat.le_of_ble_eq_true rfl) (fun pG eV s m args below meth cdx ls Q E hml hr hlk hnm hZ hl eQ => ?_)
  have hx := E.1
  have hb := E.2.1
  have hl : lv_has ls 8 [(0, .ref q), (1, .int i), (2, .int wh)] := hl
  have hR := h0.q
  refine lv_aload_n hx hb d_Mod_cluster_0 rfl (lv_at hl 0 rfl) ?_
  refine lv_iconst (v := 0) hx hb d_Mod_cluster_1 (by decide) ?_
  refine rr_put0 E hZ hR fl_Mod_72 d_Mod_cluster_2 (fun M H locs hZ hR => ?_)
  refine lv_iconst (v := (-1)) hx hb d_Mod_cluster_5 (by decide) ?_
  refine lv_istore_n (lv' := [(3, .int (-1)), (0, .ref q), (1, .int i), (2, .int wh)]) hx hb d_Mod_cluster_6 rfl hl (by decide) rfl (fun ls hl => ?_)
  refine lv_iconst (v := 0) hx hb d_Mod_cluster_7 (by decide) ?_
  refine lv_istore (lv' := [(4, .int 0), (3, .int (-1)), (0, .ref q), (1, .int i), (2, .int wh)]) hx hb d_Mod_cluster_8 hl (by decide) rfl (fun ls hl => ?_)
  have J124 : ∀ (o : Option Nat) (H : Heap) (locs : List Loc) (ls : Array Slot), mm_S g s M H locs → (∀ p, o = some p → p < 50) → clFin I i wh o → lv_has ls 8 [(0, .ref q), (2, .int wh), (3, .int (pv o))] → W pG l eV (rk 1 26 0 0) s m args below meth cdx H locs 0 0 Q (F0 m 124 ls []) := by
    intro o H locs ls hZ ho hF hl
    refine lv_iload_n hx hb d_Mod_cluster_124 rfl (lv_at hl 2 rfl) ?_
    refine lv_if_ge (tgt := 132) hx hb d_Mod_cluster_125 (by decide) (fun c125 => ?_) (fun c125 => ?_)
    · obtain ⟨p0, rfl⟩ := pv_pos (o := o) (fun z => absurd c125 (Int32.not_le.mpr z))
      have hp5 := ho p0 rfl
      refine lv_iload_n hx hb d_Mod_cluster_132 rfl (lv_at hl 1 rfl) ?_
      refine lv_if_ne (tgt := 140) hx hb d_Mod_cluster_133 (by decide) (fun c133 => ?_) (fun c133 => ?_)
      · refine lv_iload_n hx hb d_Mod_cluster_140 rfl (lv_at hl 1 rfl) ?_
        refine lv_iconst (v := 1) hx hb d_Mod_cluster_141 (by decide) ?_
        refine lv_icmp_ne (tgt := 154) hx hb d_Mod_cluster_142 (by decide) (fun c142 => ?_) (fun c142 => ?_)
        · refine lv_aload_n hx hb d_Mod_cluster_154 rfl (lv_at hl 0 rfl) ?_
          refine mm_get (v := .ref (ad 20)) E hZ cl_Mod fl_Mod_57 (by decide) hR.1.1 rfl d_Mod_cluster_155 ?_
          refine lv_iload_n hx hb d_Mod_cluster_158 rfl (lv_at hl 2 rfl) ?_
          refine rr_iald 20 rfl rfl E hZ hR (show pv (some p0) = nI p0 from rfl) (show p0 < 50 by omega) d_Mod_cluster_159 ?_
          exact mm_iret (v := I 20 p0) E hr hlk eQ hZ d_Mod_cluster_160 ⟨_, rfl, hR, some p0, hF, by rw [clA, if_neg c133, if_neg c142]⟩
        · refine lv_aload_n hx hb d_Mod_cluster_145 rfl (lv_at hl 0 rfl) ?_
          refine mm_get (v := .ref (ad 21)) E hZ cl_Mod fl_Mod_60 (by decide) hR.1.1 rfl d_Mod_cluster_146 ?_
          refine lv_iload_n hx hb d_Mod_cluster_149 rfl (lv_at hl 2 rfl) ?_
          refine rr_iald 21 rfl rfl E hZ hR (show pv (some p0) = nI p0 from rfl) (show p0 < 50 by omega) d_Mod_cluster_150 ?_
          refine lv_goto (tgt := 160) hx hb d_Mod_cluster_151 (by decide) ?_
          exact mm_iret (v := I 21 p0) E hr hlk eQ hZ d_Mod_cluster_160 ⟨_, rfl, hR, some p0, hF, by rw [clA, if_neg c133, if_pos c142]⟩
      · refine lv_iload_n hx hb d_Mod_cluster_136 rfl (lv_at hl 2 rfl) ?_
        refine lv_goto (tgt := 160) hx hb d_Mod_cluster_137 (by decide) ?_
        exact mm_iret (v := pv (some p0)) E hr hlk eQ hZ d_Mod_cluster_160 ⟨_, rfl, hR, some p0, hF, by rw [clA, if_pos c133]; rfl⟩
    · have ho2 := pv_neg ho (Int32.not_le.mp c125)
      subst ho2
      refine lv_iconst (v := (-1)) hx hb d_Mod_cluster_128 (by decide) ?_
      refine lv_goto (tgt := 160) hx hb d_Mod_cluster_129 (by decide) ?_
      exact mm_iret (v := (-1)) E hr hlk eQ hZ d_Mod_cluster_160 ⟨_, rfl, hR, none, hF, rfl⟩
  have loop : ∀ (n : Nat) (k : Nat) (H : Heap) (locs : List Loc) (ls : Array Slot), mm_S g s M H locs → k ≤ 51 → (0 < k → ∃ v : Nat, v < 3 ∧ wh = nI v) → (∀ ii, ii < 2 ^ 31 → i = nI ii → k ≤ ii + 1) → (i < 0 → k = 0) → 52 ≤ k + n → lv_has ls 8 [(0, .ref q), (1, .int i), (2, .int wh), (3, .int (pv (clp I k))), (4, .int (nI k))] → W pG l eV (rk 1 26 0 0) s m args below meth cdx H locs 0 0 Q (F0 m 10 ls []) := by
    intro n
    induction n with
    | zero => exact fun k H locs ls _ hk5 hw hle hneg hfu _ => absurd hfu (by omega)
    | succ n ih =>
      intro k H locs ls hZ hk5 hw hle hneg hfu hl
      have hfo := hfu
      refine lv_iload hx hb d_Mod_cluster_10 (lv_at hl 4 rfl) ?_
      refine lv_iload_n hx hb d_Mod_cluster_12 rfl (lv_at hl 1 rfl) ?_
      refine lv_icmp_gt (tgt := 124) hx hb d_Mod_cluster_13 (by decide) (fun c13 => ?_) (fun c13 => ?_)
      · rcases Classical.em (∃ v : Nat, v < 3 ∧ wh = nI v) with hwh | hwh
        · rcases Classical.em (i < 0) with hi0 | hi0
          · have hk0 := hneg hi0
            subst hk0
            exact J124 none H locs ls hZ (fun p z => by cases z) (Or.inr ⟨hwh, Or.inl ⟨hi0, rfl⟩⟩) (lv_sub hl [0, 2, 3] rfl)
          · obtain ⟨ii, hii, rfl⟩ := nI_of hi0
            have hk1 : k = ii + 1 := by
              have h1 := hle ii hii rfl
              have h2 := (nI_ltI hii (by omega)).mp c13
              omega
            subst hk1
            exact J124 (clp I (ii + 1)) H locs ls hZ (fun p z => clp_lt z) (Or.inr ⟨hwh, Or.inr ⟨ii, hii, rfl, rfl⟩⟩) (lv_sub hl [0, 2, 3] rfl)
        · have hk0 : k = 0 := by
            rcases Nat.eq_zero_or_pos k with z | z
            · exact z
            · exact absurd (hw z) hwh
          subst hk0
          exact J124 none H locs ls hZ (fun p z => by cases z) (Or.inl ⟨hwh, rfl⟩) (lv_sub hl [0, 2, 3] rfl)
      · obtain ⟨ii, hii, rfl⟩ : ∃ ii : Nat, ii < 2 ^ 31 ∧ i = nI ii := nI_of (fun z => c13 (Int32.lt_of_lt_of_le z (nI_pos' (by omega))))
        have hki : k ≤ ii := by
          rcases Nat.lt_or_ge ii k with z | z
          · exact absurd (nI_lt z (by omega)) c13
          · exact z
        refine lv_iload_n hx hb d_Mod_cluster_16 rfl (lv_at hl 2 rfl) ?_
        refine lv_if_lt (tgt := 124) hx hb d_Mod_cluster_17 (by decide) (fun c17 => ?_) (fun c17 => ?_)
        · have hk0 : k = 0 := by
            rcases Nat.eq_zero_or_pos k with z | z
            · exact z
            · exact absurd (hw z) (fun ⟨v, hv, e⟩ => absurd (e ▸ c17) (nI_pos (by omega)))
          subst hk0
          exact J124 none H locs ls hZ (fun p z => by cases z) (Or.inl ⟨fun ⟨v, hv, e⟩ => absurd (e ▸ c17) (nI_pos (by omega)), rfl⟩) (lv_sub hl [0, 2, 3] rfl)
        · refine lv_iload_n hx hb d_Mod_cluster_20 rfl (lv_at hl 2 rfl) ?_
          refine lv_iconst (v := 3) hx hb d_Mod_cluster_21 (by decide) ?_
          refine lv_icmp_ge (tgt := 124) hx hb d_Mod_cluster_22 (by decide) (fun c22 => ?_) (fun c22 => ?_)
          · have hk0 : k = 0 := by
              rcases Nat.eq_zero_or_pos k with z | z
              · exact z
              · exact absurd (hw z) (fun ⟨v, hv, e⟩ => absurd (show nI 3 ≤ nI v from e ▸ c22) (nI_ge hv (by decide)))
            subst hk0
            exact J124 none H locs ls hZ (fun p z => by cases z) (Or.inl ⟨fun ⟨v, hv, e⟩ => absurd (show nI 3 ≤ nI v from e ▸ c22) (nI_ge hv (by decide)), rfl⟩) (lv_sub hl [0, 2, 3] rfl)
          · obtain ⟨v, hv, hwv⟩ : ∃ v : Nat, v < 3 ∧ wh = nI v := by
              rcases pk_ix wh (show 3 < 2 ^ 31 by decide) with z | z | z
              · exact absurd z c17
              · exact absurd z c22
              · exact z
            have J34 : ∀  (H : Heap) (locs : List Loc) (ls : Array Slot), mm_S g s M H locs → clp I (k + 1) = sel I (clp I k) 50 → k ≤ 50 → lv_has ls 8 [(0, .ref q), (1, .int (nI ii)), (2, .int wh), (3, .int (pv (clp I k))), (4, .int (nI k))] → W pG l eV (rk 1 26 0 0) s m args below meth cdx H locs 0 0 Q (F0 m 34 ls []) := by
              intro  H locs ls hZ hnx hk51 hl
              refine lv_iconst (v := (-1)) hx hb d_Mod_cluster_34 (by decide) ?_
              refine lv_istore (lv' := [(5, .int (-1)), (0, .ref q), (1, .int (nI ii)), (2, .int wh), (3, .int (pv (clp I k))), (4, .int (nI k))]) hx hb d_Mod_cluster_35 hl (by decide) rfl (fun ls hl => ?_)
              refine lv_iconst (v := 0) hx hb d_Mod_cluster_37 (by decide) ?_
              refine lv_istore (lv' := [(6, .int 0), (5, .int (-1)), (0, .ref q), (1, .int (nI ii)), (2, .int wh), (3, .int (pv (clp I k))), (4, .int (nI k))]) hx hb d_Mod_cluster_38 hl (by decide) rfl (fun ls hl => ?_)
              have loop2 : ∀ (n2 : Nat) (p2 : Nat) (H : Heap) (locs : List Loc) (ls : Array Slot), mm_S g s M H locs → p2 ≤ 50 → 51 ≤ p2 + n2 → lv_has ls 8 [(0, .ref q), (1, .int (nI ii)), (2, .int wh), (3, .int (pv (clp I k))), (4, .int (nI k)), (5, .int (pv (sel I (clp I k) p2))), (6, .int (nI p2))] → W pG l eV (rk 1 26 0 0) s m args below meth cdx H locs 0 0 Q (F0 m 40 ls []) := by
                intro n2
                induction n2 with
                | zero => exact fun p2 H locs ls _ hp50 hfu _ => absurd hfu (by omega)
                | succ n2 ih2 =>
                  intro p2 H locs ls hZ hp50 hfu hl
                  refine lv_iload hx hb d_Mod_cluster_40 (lv_at hl 6 rfl) ?_
                  refine lv_bipush (v := 50) hx hb d_Mod_cluster_42 (by decide) ?_
                  refine lv_icmp_ge (tgt := 115) hx hb d_Mod_cluster_44 (by decide) (fun c44 => ?_) (fun c44 => ?_)
                  · have hp2 : p2 = 50 := by
                      rcases Nat.lt_or_ge p2 50 with z | z
                      · exact absurd (show nI 50 ≤ nI p2 from c44) (nI_ge z (by decide))
                      · omega
                    subst hp2
                    refine lv_iload hx hb d_Mod_cluster_115 (lv_at hl 5 rfl) ?_
                    refine lv_istore_n (lv' := [(3, .int (pv (sel I (clp I k) 50))), (0, .ref q), (1, .int (nI ii)), (2, .int wh), (4, .int (nI k)), (5, .int (pv (sel I (clp I k) 50))), (6, .int (nI 50))]) hx hb d_Mod_cluster_117 rfl hl (by decide) rfl (fun ls hl => ?_)
                    refine lv_iinc (v := (nI k) + 1) (lv' := [(4, .int ((nI k) + 1)), (3, .int (pv (sel I (clp I k) 50))), (0, .ref q), (1, .int (nI ii)), (2, .int wh), (5, .int (pv (sel I (clp I k) 50))), (6, .int (nI 50))]) hx hb d_Mod_cluster_118 hl (k := 4) rfl rfl (by decide) rfl (fun ls hl => ?_)
                    refine lv_goto (tgt := 10) hx hb d_Mod_cluster_121 (by decide) ?_
                    rw [nI_1, ← hnx] at hl
                    exact ih (k + 1) H locs ls hZ (by omega) (fun z => ⟨v, hv, hwv⟩) (fun ii2 h2 e2 => by
                      have := (nI_eq (by omega) (by omega)).mp e2
                      omega) (fun z => absurd z (nI_pos (by omega))) (by omega) (lv_sub hl [2, 3, 4, 1, 0] rfl)
                  · have hp2 : p2 < 50 := by
                      rcases Nat.lt_or_ge p2 50 with z | z
                      · exact z
                      · exact absurd (show nI 50 ≤ nI p2 from nI_le z (by omega)) c44
                    have J107 : ∀ (v2 : Int32) (H : Heap) (locs : List Loc) (ls : Array Slot), mm_S g s M H locs → v2 = pv (sel I (clp I k) (p2 + 1)) → lv_has ls 8 [(0, .ref q), (1, .int (nI ii)), (2, .int wh), (3, .int (pv (clp I k))), (4, .int (nI k)), (5, .int (pv (sel I (clp I k) p2))), (6, .int (nI p2))] → W pG l eV (rk 1 26 0 0) s m args below meth cdx H locs 0 0 Q (F0 m 107 ls [.int v2]) := by
                      intro v2 H locs ls hZ hv2 hl
                      refine lv_istore (lv' := [(5, .int v2), (0, .ref q), (1, .int (nI ii)), (2, .int wh), (3, .int (pv (clp I k))), (4, .int (nI k)), (6, .int (nI p2))]) hx hb d_Mod_cluster_107 hl (by decide) rfl (fun ls hl => ?_)
                      refine lv_iinc (v := (nI p2) + 1) (lv' := [(6, .int ((nI p2) + 1)), (5, .int v2), (0, .ref q), (1, .int (nI ii)), (2, .int wh), (3, .int (pv (clp I k))), (4, .int (nI k))]) hx hb d_Mod_cluster_109 hl (k := 6) rfl rfl (by decide) rfl (fun ls hl => ?_)
                      refine lv_goto (tgt := 40) hx hb d_Mod_cluster_112 (by decide) ?_
                      subst hv2
                      rw [nI_1] at hl
                      exact ih2 (p2 + 1) H locs ls hZ (by omega) (by omega) (lv_sub hl [2, 3, 4, 5, 6, 1, 0] rfl)
                    have J77 : ∀ (is2 : Int32) (H : Heap) (locs : List Loc) (ls : Array Slot), mm_S g s M H locs → is2 = b32 ((¬ I 21 p2 ≤ 2) ∧ obf1 I (clp I k) p2 = true) → lv_has ls 8 [(0, .ref q), (1, .int (nI ii)), (2, .int wh), (3, .int (pv (clp I k))), (4, .int (nI k)), (5, .int (pv (sel I (clp I k) p2))), (6, .int (nI p2))] → W pG l eV (rk 1 26 0 0) s m args below meth cdx H locs 0 0 Q (F0 m 77 ls [.int is2]) := by
                      intro is2 H locs ls hZ his hl
                      refine lv_istore (lv' := [(7, .int is2), (0, .ref q), (1, .int (nI ii)), (2, .int wh), (3, .int (pv (clp I k))), (4, .int (nI k)), (5, .int (pv (sel I (clp I k) p2))), (6, .int (nI p2))]) hx hb d_Mod_cluster_77 hl (by decide) rfl (fun ls hl => ?_)
                      refine lv_iload hx hb d_Mod_cluster_79 (lv_at hl 0 rfl) ?_
                      refine lv_if_eq (tgt := 105) hx hb d_Mod_cluster_81 (by decide) (fun c81 => ?_) (fun c81 => ?_)
                      · refine lv_iload hx hb d_Mod_cluster_105 (lv_at hl 6 rfl) ?_
                        exact J107 _ H locs ls hZ (by rw [sel, if_neg (fun z => b32_eq0.mp (his ▸ c81) ⟨z.1, z.2.1⟩)]) (lv_sub hl [1, 2, 3, 4, 5, 6, 7] rfl)
                      · have hC := b32_ne0 (his ▸ c81)
                        have hsb : ∀ b, sel I (clp I k) p2 = some b → b < p2 := fun b z => sel_lt z
                        generalize hsl : sel I (clp I k) p2 = sl at hl hsb ⊢
                        refine lv_iload hx hb d_Mod_cluster_84 (lv_at hl 6 rfl) ?_
                        refine lv_if_lt (tgt := 100) hx hb d_Mod_cluster_86 (by decide) (fun c86 => ?_) (fun c86 => ?_)
                        · have hsn := pv_neg (fun p z => by have := hsb p z; omega) c86
                          rw [hsn] at hsl
                          rw [hsn, ← hsl] at hl
                          refine lv_iload hx hb d_Mod_cluster_100 (lv_at hl 7 rfl) ?_
                          refine lv_goto (tgt := 107) hx hb d_Mod_cluster_102 (by decide) ?_
                          exact J107 (nI p2) H locs ls hZ (by rw [sel, if_pos ⟨hC.1, hC.2, by rw [hsl]; rfl⟩] <;> rfl) (lv_sub hl [1, 2, 3, 4, 5, 6, 7] rfl)
                        · obtain ⟨b2, rfl⟩ := pv_pos c86
                          have hb2 := hsb b2 rfl
                          refine lv_aload_n hx hb d_Mod_cluster_89 rfl (lv_at hl 1 rfl) ?_
                          refine lv_iload hx hb d_Mod_cluster_90 (lv_at hl 7 rfl) ?_
                          refine lv_iload hx hb d_Mod_cluster_92 (lv_at hl 6 rfl) ?_
                          refine mm_calli (mm_runV (As := [.int (nI p2), .int (pv ((some b2)))]) (rest := []) E hZ hml hl.1 lk_Mod_150 me_Mod_isBefore in_Mod_isBefore (c_Mod_isBefore l g hR.1 (a := p2) (b := b2) hp2 (by omega)) hR.1.1 cl_Mod.1 ⟨Nat.le_of_ble_eq_true rfl, Nat.le_of_ble_eq_true rfl⟩ rfl (Nat.le_of_ble_eq_true rfl) d_Mod_cluster_94 ⟨Nat.le_of_ble_eq_true rfl, Nat.le_of_ble_eq_true rfl⟩) hZ (fun r1 M1 H locs hp hZ => ?_)
                          rw [hp.1] at hZ
                          replace hp := hp.2
                          rw [← hsl] at hl
                          refine lv_if_eq (tgt := 105) hx hb d_Mod_cluster_97 (by decide) (fun c97 => ?_) (fun c97 => ?_)
                          · refine lv_iload hx hb d_Mod_cluster_105 (lv_at hl 6 rfl) ?_
                            exact J107 _ H locs ls hZ (by rw [sel, if_neg (fun z => by rw [hsl] at z; exact b32_eq0.mp (hp ▸ c97) (of_decide_eq_true z.2.2))]) (lv_sub hl [1, 2, 3, 4, 5, 6, 7] rfl)
                          · refine lv_iload hx hb d_Mod_cluster_100 (lv_at hl 7 rfl) ?_
                            refine lv_goto (tgt := 107) hx hb d_Mod_cluster_102 (by decide) ?_
                            exact J107 (nI p2) H locs ls hZ (by rw [sel, if_pos ⟨hC.1, hC.2, by rw [hsl]; exact decide_eq_true (b32_ne0 (hp ▸ c97))⟩] <;> rfl) (lv_sub hl [1, 2, 3, 4, 5, 6, 7] rfl)
                    refine lv_aload_n hx hb d_Mod_cluster_47 rfl (lv_at hl 0 rfl) ?_
                    refine mm_get (v := .ref (ad 21)) E hZ cl_Mod fl_Mod_60 (by decide) hR.1.1 rfl d_Mod_cluster_48 ?_
                    refine lv_iload hx hb d_Mod_cluster_51 (lv_at hl 6 rfl) ?_
                    refine rr_iald 21 rfl rfl E hZ hR rfl (show p2 < 50 by omega) d_Mod_cluster_53 ?_
                    refine lv_iconst (v := 2) hx hb d_Mod_cluster_54 (by decide) ?_
                    refine lv_icmp_le (tgt := 76) hx hb d_Mod_cluster_55 (by decide) (fun c55 => ?_) (fun c55 => ?_)
                    · refine lv_iconst (v := 0) hx hb d_Mod_cluster_76 (by decide) ?_
                      exact J77 _ H locs ls hZ (b32_f (fun z => z.1 c55)) (lv_sub hl [0, 1, 2, 3, 4, 5, 6] rfl)
                    · refine lv_iload_n hx hb d_Mod_cluster_58 rfl (lv_at hl 3 rfl) ?_
                      refine lv_if_lt (tgt := 72) hx hb d_Mod_cluster_59 (by decide) (fun c59 => ?_) (fun c59 => ?_)
                      · have hcn := pv_neg (fun p z => clp_lt z) c59
                        refine lv_iconst (v := 1) hx hb d_Mod_cluster_72 (by decide) ?_
                        refine lv_goto (tgt := 77) hx hb d_Mod_cluster_73 (by decide) ?_
                        exact J77 _ H locs ls hZ (b32_t ⟨c55, by rw [hcn]; rfl⟩) (lv_sub hl [0, 1, 2, 3, 4, 5, 6] rfl)
                      · obtain ⟨a2, ha2⟩ := pv_pos c59
                        have ha5 := clp_lt ha2
                        rw [ha2] at hl J77
                        refine lv_aload_n hx hb d_Mod_cluster_62 rfl (lv_at hl 0 rfl) ?_
                        refine lv_iload_n hx hb d_Mod_cluster_63 rfl (lv_at hl 3 rfl) ?_
                        refine lv_iload hx hb d_Mod_cluster_64 (lv_at hl 6 rfl) ?_
                        refine mm_calli (mm_runV (As := [.int (pv (some a2)), .int (nI p2)]) (rest := []) E hZ hml hl.1 lk_Mod_150 me_Mod_isBefore in_Mod_isBefore (c_Mod_isBefore l g hR.1 (a := a2) (b := p2) ha5 hp2) hR.1.1 cl_Mod.1 ⟨Nat.le_of_ble_eq_true rfl, Nat.le_of_ble_eq_true rfl⟩ rfl (Nat.le_of_ble_eq_true rfl) d_Mod_cluster_66 ⟨Nat.le_of_ble_eq_true rfl, Nat.le_of_ble_eq_true rfl⟩) hZ (fun r2 M1 H locs hp hZ => ?_)
                        rw [hp.1] at hZ
                        replace hp := hp.2
                        refine lv_if_eq (tgt := 76) hx hb d_Mod_cluster_69 (by decide) (fun c69 => ?_) (fun c69 => ?_)
                        · refine lv_iconst (v := 0) hx hb d_Mod_cluster_76 (by decide) ?_
                          exact J77 _ H locs ls hZ (b32_f (fun z => b32_eq0.mp (hp ▸ c69) (of_decide_eq_true z.2))) (lv_sub hl [0, 1, 2, 3, 4, 5, 6] rfl)
                        · refine lv_iconst (v := 1) hx hb d_Mod_cluster_72 (by decide) ?_
                          refine lv_goto (tgt := 77) hx hb d_Mod_cluster_73 (by decide) ?_
                          exact J77 _ H locs ls hZ (b32_t ⟨c55, decide_eq_true (b32_ne0 (hp ▸ c69))⟩) (lv_sub hl [0, 1, 2, 3, 4, 5, 6] rfl)
              exact loop2 51 0 H locs ls hZ (Nat.zero_le _) (by omega) (lv_sub hl [2, 3, 4, 5, 6, 1, 0] rfl)
            refine lv_iload hx hb d_Mod_cluster_25 (lv_at hl 4 rfl) ?_
            refine lv_if_eq (tgt := 34) hx hb d_Mod_cluster_27 (by decide) (fun c27 => ?_) (fun c27 => ?_)
            · have hk0 : k = 0 := (nI_eq (by omega) (by decide)).mp (show nI k = nI 0 from c27)
              exact J34 H locs ls hZ (by rw [hk0]; rfl) (by omega) (lv_sub hl [0, 1, 2, 3, 4] rfl)
            · have hk0 : ¬ k = 0 := fun z => c27 (by rw [z]; rfl)
              refine lv_iload_n hx hb d_Mod_cluster_30 rfl (lv_at hl 3 rfl) ?_
              refine lv_if_lt (tgt := 124) hx hb d_Mod_cluster_31 (by decide) (fun c31 => ?_) (fun c31 => ?_)
              · exact J124 (clp I k) H locs ls hZ (fun p z => clp_lt z) (Or.inr ⟨⟨v, hv, hwv⟩, Or.inr ⟨ii, hii, rfl, by have hcn := pv_neg (fun p z => clp_lt z) c31; rw [hcn, clp_none (by omega) hcn (ii + 1) (by omega)]⟩⟩) (lv_sub hl [0, 2, 3] rfl)
              · obtain ⟨a3, ha3⟩ := pv_pos c31
                exact J34 H locs ls hZ (by rw [clp, if_neg hk0, ha3]) (hK k a3 ha3) (lv_sub hl [0, 1, 2, 3, 4] rfl)
  exact loop 52 0 H locs ls hZ (by omega) (fun z => absurd z (by omega)) (fun ii _ _ => by omega) (fun _ => rfl) (by omega) (lv_sub hl [2, 3, 4, 1, 0] rfl)
