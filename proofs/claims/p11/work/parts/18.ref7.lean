/-! THE REFERENCE: tick -/
theorem up2_f {α : Type} (I : Nat → Nat → α) {k k' : Nat} (j : Nat) (x : α) (h : k' ≠ k) : up2 I k j x k' = I k' := va_up_ne I _ h
theorem up2_s {α : Type} (I : Nat → Nat → α) (k j : Nat) (x : α) : up2 I k j x k j = x := by unfold up2; rw [va_up_self, va_up_self]
theorem up2_j {α : Type} (I : Nat → Nat → α) (k : Nat) {j j' : Nat} (x : α) (h : j' ≠ j) : up2 I k j x k j' = I k j' := by unfold up2; rw [va_up_self, va_up_ne _ _ h]
theorem va_up_id {α : Type} (f : Nat → α) {k : Nat} {v : α} (h : f k = v) : va_up f k v = f := by
  funext j
  by_cases e : j = k
  · subst e; rw [va_up_self, h]
  · rw [va_up_ne _ _ e]
/-- an alarm is told -/
def tellL (I : Nat → Nat → Int32) (L : Nat → Nat → Int64) (i n : Nat) (k : Int32) : Nat → Nat → Int64 := if n < 400 then up2 (up2 (up2 (up2 (up2 L 19 (5 * n) (nI i).toInt64) 19 (5 * n + 1) k.toInt64) 19 (5 * n + 2) (I 10 i).toInt64) 19 (5 * n + 3) (I 11 i).toInt64) 19 (5 * n + 4) (L 12 i) else L
theorem tellL_f (I : Nat → Nat → Int32) (L : Nat → Nat → Int64) (i n : Nat) (k : Int32) {f : Nat} (h : f ≠ 19) : tellL I L i n k f = L f := by
  unfold tellL
  split
  · rw [up2_f _ _ _ h, up2_f _ _ _ h, up2_f _ _ _ h, up2_f _ _ _ h, up2_f _ _ _ h]
  · rfl
abbrev rSt : Type := (Nat → Nat → Int32) × (Nat → Nat → Int64) × Nat
def rLate (ck : Int64) (i : Nat) (s : rSt) : rSt := if 0 < s.1 10 i ∧ s.2.1 12 i < ck ∧ s.1 13 i = 0 then (up2 (up2 s.1 13 i 1) 21 (s.1 11 i).toNatClampNeg (s.1 21 (s.1 11 i).toNatClampNeg + 1), tellL s.1 s.2.1 i s.2.2 1, s.2.2 + 1) else s
def rLost (ck : Int64) (i : Nat) (s : rSt) : rSt := if 0 < s.1 10 i ∧ s.2.1 12 i + 864000 < ck ∧ s.1 14 i = 0 then (up2 s.1 14 i 1, tellL s.1 s.2.1 i s.2.2 2, s.2.2 + 1) else s
def rTk (ck : Int64) (s : rSt) : Nat → rSt
  | 0 => s
  | i + 1 => rLost ck i (rLate ck i (rTk ck s i))
theorem rLate_k (ck : Int64) (i : Nat) (s : rSt) : (rLate ck i s).1 10 = s.1 10 ∧ (rLate ck i s).1 11 = s.1 11 ∧ (rLate ck i s).2.1 12 = s.2.1 12 ∧ (rLate ck i s).2.2 ≤ s.2.2 + 1 := by
  unfold rLate
  split
  · exact ⟨by dsimp only; rw [up2_f _ _ _ (by decide), up2_f _ _ _ (by decide)], by dsimp only; rw [up2_f _ _ _ (by decide), up2_f _ _ _ (by decide)], tellL_f _ _ _ _ _ (show 12 ≠ 19 by decide), Nat.le_refl _⟩
  · exact ⟨rfl, rfl, rfl, Nat.le_succ _⟩
theorem rLost_k (ck : Int64) (i : Nat) (s : rSt) : (rLost ck i s).1 10 = s.1 10 ∧ (rLost ck i s).1 11 = s.1 11 ∧ (rLost ck i s).2.1 12 = s.2.1 12 ∧ (rLost ck i s).2.2 ≤ s.2.2 + 1 := by
  unfold rLost
  split
  · exact ⟨by dsimp only; rw [up2_f _ _ _ (by decide)], by dsimp only; rw [up2_f _ _ _ (by decide)], tellL_f _ _ _ _ _ (show 12 ≠ 19 by decide), Nat.le_refl _⟩
  · exact ⟨rfl, rfl, rfl, Nat.le_succ _⟩
theorem rTk_k (ck : Int64) (s : rSt) (i : Nat) : (rTk ck s i).1 10 = s.1 10 ∧ (rTk ck s i).1 11 = s.1 11 ∧ (rTk ck s i).2.1 12 = s.2.1 12 ∧ (rTk ck s i).2.2 ≤ s.2.2 + 2 * i := by
  induction i with
  | zero => exact ⟨rfl, rfl, rfl, Nat.le_refl _⟩
  | succ i ih =>
    obtain ⟨a, b, c, d⟩ := ih
    obtain ⟨a1, b1, c1, d1⟩ := rLate_k ck i (rTk ck s i)
    obtain ⟨a2, b2, c2, d2⟩ := rLost_k ck i (rLate ck i (rTk ck s i))
    exact ⟨a2.trans (a1.trans a), b2.trans (b1.trans b), c2.trans (c1.trans c), by unfold rTk; omega⟩
/-- tell, in these words -/
theorem tell_post {g : mm_G} {M M' : mm_M} {q : Nat} {ad : Nat → Nat} {I : Nat → Nat → Int32} {L : Nat → Nat → Int64} {S' : Nat → Int32} {ck : Int64} {i n : Nat} {k : Int32}
    (h : (n < 400 ∧ Rq g M M' q ad I (up2 (up2 (up2 (up2 (up2 L 19 (5 * n) (nI i).toInt64) 19 (5 * n + 1) k.toInt64) 19 (5 * n + 2) (I 10 i).toInt64) 19 (5 * n + 3) (I 11 i).toInt64) 19 (5 * n + 4) (up2 (up2 (up2 (up2 L 19 (5 * n) (nI i).toInt64) 19 (5 * n + 1) k.toInt64) 19 (5 * n + 2) (I 10 i).toInt64) 19 (5 * n + 3) (I 11 i).toInt64 12 i)) S' ck) ∨ (400 ≤ n ∧ Rq g M M' q ad I L S' ck)) : Rq g M M' q ad I (tellL I L i n k) S' ck := by
  rcases h with ⟨h1, h2⟩ | ⟨h1, h2⟩
  · rw [up2_f _ _ _ (show 12 ≠ 19 by decide), up2_f _ _ _ (show 12 ≠ 19 by decide), up2_f _ _ _ (show 12 ≠ 19 by decide), up2_f _ _ _ (show 12 ≠ 19 by decide)] at h2
    unfold tellL
    rw [if_pos h1]
    exact h2
  · unfold tellL
    rw [if_neg (by omega)]
    exact h2
theorem tell_up14 (I : Nat → Nat → Int32) (L : Nat → Nat → Int64) (i n : Nat) (k : Int32) : tellL (up2 I 14 i 1) L i n k = tellL I L i n k := by
  unfold tellL
  rw [up2_f _ _ _ (show 10 ≠ 14 by decide), up2_f _ _ _ (show 11 ≠ 14 by decide)]
theorem tell_up21 (I : Nat → Nat → Int32) (L : Nat → Nat → Int64) (i n p : Nat) (k x : Int32) (y : Int32) : tellL (up2 (up2 I 13 i x) 21 p y) L i n k = tellL I L i n k := by
  unfold tellL
  rw [up2_f _ _ _ (show 10 ≠ 21 by decide), up2_f _ _ _ (show 11 ≠ 21 by decide), up2_f _ _ _ (show 10 ≠ 13 by decide), up2_f _ _ _ (show 11 ≠ 13 by decide)]
set_option maxHeartbeats 4000000 in
set_option maxRecDepth 100000 in
theorem c_Mod_tick (l : Launch) (g : mm_G) {M0 : mm_M} {q : Nat} {ad : Nat → Nat} {I : Nat → Nat → Int32} {L : Nat → Nat → Int64} {S : Nat → Int32} {ck : Int64} (h0 : Rs g M0 q ad I L S ck) (t : Int64) {n0 : Nat} (hn : S 18 = nI n0) (hn2 : n0 < 2 ^ 29) (hat : ∀ i, i < 200 → 0 < I 10 i → ∃ p, p < 50 ∧ I 11 i = nI p) : Ci l g y_Mod_tick b_Mod_tick 5 .int (rk 1 25 0 0) M0 [.ref q, .long t] (fun r M' => (¬ (ck ≤ t ∧ t ≤ 2000000000) ∧ r = (-102) ∧ Rq g M0 M' q ad I L (va_up S 0 0) ck) ∨ ((ck ≤ t ∧ t ≤ 2000000000) ∧ Rq g M0 M' q ad (rTk t (I, L, n0) 200).1 (rTk t (I, L, n0) 200).2.1 (va_up (va_up S 0 0) 18 (nI (rTk t (I, L, n0) 200).2.2)) t ∧ r = nI (rTk t (I, L, n0) 200).2.2 - nI n0)) := by
  refine mm_enter (by decide) (Nat.le_of_ble_eq_true rfl) (fun pG eV s m args below meth cdx ls Q E hml hr hlk hnm hZ hl eQ => ?_)
  have hx := E.1
  have hb := E.2.1
  have hl : lv_has ls 5 [(0, .ref q), (1, .long t)] := hl
  have hR := h0.q
  refine lv_aload_n hx hb d_Mod_tick_0 rfl (lv_at hl 0 rfl) ?_
  refine lv_iconst (v := 0) hx hb d_Mod_tick_1 (by decide) ?_
  refine rr_put0 E hZ hR fl_Mod_72 d_Mod_tick_2 (fun M H locs hZ hR => ?_)
  refine lv_lload_n hx hb d_Mod_tick_5 rfl (lv_at hl 1 rfl) ?_
  refine lv_aload_n hx hb d_Mod_tick_6 rfl (lv_at hl 0 rfl) ?_
  refine mm_get (v := .long ck) E hZ cl_Mod fl_Mod_128 (by decide) hR.1.1 rfl d_Mod_tick_7 ?_
  refine lv_ldc2 (v := 2000000000) hx hb E.2.2.1 (E.2.2.2.1 _ w_738) d_Mod_tick_10 ?_
  refine mm_calli (mm_runS (As := [.long t, .long ck, .long 2000000000]) (rest := []) E hZ hml hl.1 lk_Mod_78 me_Mod_isIn st_Mod_isIn (c_Mod_isIn l g _ t ck 2000000000) ⟨Nat.le_of_ble_eq_true rfl, Nat.le_of_ble_eq_true rfl⟩ rfl (Nat.le_of_ble_eq_true rfl) d_Mod_tick_13 ⟨Nat.le_of_ble_eq_true rfl, Nat.le_of_ble_eq_true rfl⟩) hZ (fun r1 M1 H locs hp hZ => ?_)
  rw [hp.1] at hZ
  replace hp := hp.2
  refine lv_if_ne (tgt := 22) hx hb d_Mod_tick_16 (by decide) (fun c16 => ?_) (fun c16 => ?_)
  · have hT := b32_ne0 (hp ▸ c16)
    clear hp
    refine lv_aload_n hx hb d_Mod_tick_22 rfl (lv_at hl 0 rfl) ?_
    refine lv_lload_n hx hb d_Mod_tick_23 rfl (lv_at hl 1 rfl) ?_
    refine rr_put17 E hZ hR fl_Mod_128 d_Mod_tick_24 (fun M H locs hZ hR => ?_)
    refine lv_aload_n hx hb d_Mod_tick_27 rfl (lv_at hl 0 rfl) ?_
    refine mm_get (v := .int ((va_up S 0 0) 18)) E hZ cl_Mod fl_Mod_125 (by decide) hR.1.1 rfl d_Mod_tick_28 ?_
    rw [show (va_up S 0 0) 18 = nI n0 from (va_up_ne _ _ (by decide)).trans (hn)]
    refine lv_istore_n (lv' := [(3, .int (nI n0)), (0, .ref q), (1, .long t)]) hx hb d_Mod_tick_31 rfl hl (by decide) rfl (fun ls hl => ?_)
    refine lv_iconst (v := 0) hx hb d_Mod_tick_32 (by decide) ?_
    refine lv_istore (lv' := [(4, .int 0), (3, .int (nI n0)), (0, .ref q), (1, .long t)]) hx hb d_Mod_tick_33 hl (by decide) rfl (fun ls hl => ?_)
    have loop : ∀ (n : Nat) (Ix : Nat → Nat → Int32) (Lx : Nat → Nat → Int64) (nx : Nat) (i : Nat) (M : mm_M) (H : Heap) (locs : List Loc) (ls : Array Slot), mm_S g s M H locs → Rq g M0 M q ad Ix Lx (va_up (va_up S 0 0) 18 (nI nx)) t → i ≤ 200 → (Ix, Lx, nx) = rTk t (I, L, n0) i → 201 ≤ i + n → lv_has ls 5 [(0, .ref q), (3, .int (nI n0)), (4, .int (nI i))] → W pG l eV (rk 1 25 0 0) s m args below meth cdx H locs 0 0 Q (F0 m 35 ls []) := by
      intro n
      induction n with
      | zero => exact fun Ix Lx nx i M H locs ls _ hR hi1 hst hfu _ => absurd hfu (by omega)
      | succ n ih =>
        intro Ix Lx nx i M H locs ls hZ hR hi1 hst hfu hl
        have hKk := rTk_k t (I, L, n0) i
        rw [← hst] at hKk
        obtain ⟨h10, h11, h12, hnx⟩ := hKk
        replace h10 : Ix 10 = I 10 := h10
        replace h11 : Ix 11 = I 11 := h11
        replace hnx : nx ≤ n0 + 2 * i := hnx
        refine lv_iload hx hb d_Mod_tick_35 (lv_at hl 2 rfl) ?_
        refine lv_sipush (v := 200) hx hb d_Mod_tick_37 (by decide) ?_
        refine lv_icmp_ge (tgt := 169) hx hb d_Mod_tick_40 (by decide) (fun c40 => ?_) (fun c40 => ?_)
        · have hi2 : i = 200 := by
            rcases Nat.lt_or_ge i 200 with z | z
            · exact absurd (show nI 200 ≤ nI i from c40) (nI_ge z (by decide))
            · omega
          subst hi2
          refine lv_aload_n hx hb d_Mod_tick_169 rfl (lv_at hl 0 rfl) ?_
          refine mm_get (v := .int ((va_up (va_up S 0 0) 18 (nI nx)) 18)) E hZ cl_Mod fl_Mod_125 (by decide) hR.1.1 rfl d_Mod_tick_170 ?_
          rw [show (va_up (va_up S 0 0) 18 (nI nx)) 18 = nI nx from va_up_self _ _ _]
          refine lv_iload_n hx hb d_Mod_tick_173 rfl (lv_at hl 1 rfl) ?_
          refine lv_isub hx hb d_Mod_tick_174 ?_
          exact mm_iret (v := (nI nx) - (nI n0)) E hr hlk eQ hZ d_Mod_tick_175 ⟨_, rfl, Or.inr ⟨hT, by rw [← hst]; exact hR, by rw [← hst]⟩⟩
        · have hi2 : i < 200 := by
            rcases Nat.lt_or_ge i 200 with z | z
            · exact z
            · exact absurd (show nI 200 ≤ nI i from nI_le z (by omega)) c40
          have J163 : ∀ (Iy : Nat → Nat → Int32) (Ly : Nat → Nat → Int64) (ny : Nat) (M : mm_M) (H : Heap) (locs : List Loc) (ls : Array Slot), mm_S g s M H locs → Rq g M0 M q ad Iy Ly (va_up (va_up S 0 0) 18 (nI ny)) t → (Iy, Ly, ny) = rTk t (I, L, n0) (i + 1) → lv_has ls 5 [(0, .ref q), (3, .int (nI n0)), (4, .int (nI i))] → W pG l eV (rk 1 25 0 0) s m args below meth cdx H locs 0 0 Q (F0 m 163 ls []) := by
            intro Iy Ly ny M H locs ls hZ hRy hy hl
            refine lv_iinc (v := (nI i) + 1) (lv' := [(4, .int ((nI i) + 1)), (0, .ref q), (3, .int (nI n0))]) hx hb d_Mod_tick_163 hl (k := 2) rfl rfl (by decide) rfl (fun ls hl => ?_)
            refine lv_goto (tgt := 35) hx hb d_Mod_tick_166 (by decide) ?_
            rw [nI_1] at hl
            exact ih Iy Ly ny (i + 1) M H locs ls hZ hRy (by omega) hy (by omega) (lv_sub hl [1, 2, 0] rfl)
          have J109 : ∀ (Iz : Nat → Nat → Int32) (Lz : Nat → Nat → Int64) (nz : Nat) (M : mm_M) (H : Heap) (locs : List Loc) (ls : Array Slot), mm_S g s M H locs → Rq g M0 M q ad Iz Lz (va_up (va_up S 0 0) 18 (nI nz)) t → (Iz, Lz, nz) = rLate t i (Ix, Lx, nx) → lv_has ls 5 [(0, .ref q), (3, .int (nI n0)), (4, .int (nI i))] → W pG l eV (rk 1 25 0 0) s m args below meth cdx H locs 0 0 Q (F0 m 109 ls []) := by
            intro Iz Lz nz M H locs ls hZ hRz hz hl
            have hR := hRz
            have hKz := rLate_k t i (Ix, Lx, nx)
            rw [← hz] at hKz
            obtain ⟨g10, g11, g12, gnz⟩ := hKz
            replace gnz : nz ≤ nx + 1 := gnz
            refine lv_aload_n hx hb d_Mod_tick_109 rfl (lv_at hl 0 rfl) ?_
            refine mm_get (v := .ref (ad 10)) E hZ cl_Mod fl_Mod_36 (by decide) hR.1.1 rfl d_Mod_tick_110 ?_
            refine lv_iload hx hb d_Mod_tick_113 (lv_at hl 2 rfl) ?_
            refine rr_iald 10 rfl rfl E hZ hR rfl (show i < 200 by omega) d_Mod_tick_115 ?_
            refine lv_if_le (tgt := 163) hx hb d_Mod_tick_116 (by decide) (fun c116 => ?_) (fun c116 => ?_)
            · exact J163 Iz Lz nz M H locs ls hZ hR (by rw [rTk, ← hst, ← hz, rLost, if_neg (fun y => absurd y.1 (Int32.not_lt.mpr c116))]) (lv_sub hl [0, 1, 2] rfl)
            · refine lv_aload_n hx hb d_Mod_tick_119 rfl (lv_at hl 0 rfl) ?_
              refine mm_get (v := .ref (ad 12)) E hZ cl_Mod fl_Mod_42 (by decide) hR.1.1 rfl d_Mod_tick_120 ?_
              refine lv_iload hx hb d_Mod_tick_123 (lv_at hl 2 rfl) ?_
              refine rr_lald 12 rfl E hZ hR rfl (show i < 200 by omega) d_Mod_tick_125 ?_
              refine lv_ldc2 (v := 864000) hx hb E.2.2.1 (E.2.2.2.1 _ w_743) d_Mod_tick_126 ?_
              refine lv_ladd hx hb d_Mod_tick_129 ?_
              refine lv_aload_n hx hb d_Mod_tick_130 rfl (lv_at hl 0 rfl) ?_
              refine mm_get (v := .long t) E hZ cl_Mod fl_Mod_128 (by decide) hR.1.1 rfl d_Mod_tick_131 ?_
              refine W.lcmp hx hb d_Mod_tick_134 ?_
              refine lv_if_ge (tgt := 163) hx hb d_Mod_tick_135 (by decide) (fun c135 => ?_) (fun c135 => ?_)
              · have c135 := (lg_cmp_ge _ _).mp c135
                exact J163 Iz Lz nz M H locs ls hZ hR (by rw [rTk, ← hst, ← hz, rLost, if_neg (fun y => absurd y.2.1 (Int64.not_lt.mpr c135))]) (lv_sub hl [0, 1, 2] rfl)
              · have c135 := mt (lg_cmp_ge _ _).mpr c135
                refine lv_aload_n hx hb d_Mod_tick_138 rfl (lv_at hl 0 rfl) ?_
                refine mm_get (v := .ref (ad 14)) E hZ cl_Mod fl_Mod_48 (by decide) hR.1.1 rfl d_Mod_tick_139 ?_
                refine lv_iload hx hb d_Mod_tick_142 (lv_at hl 2 rfl) ?_
                refine rr_zald 14 rfl rfl E hZ hR rfl (show i < 200 by omega) d_Mod_tick_144 ?_
                refine lv_if_ne (tgt := 163) hx hb d_Mod_tick_145 (by decide) (fun c145 => ?_) (fun c145 => ?_)
                · exact J163 Iz Lz nz M H locs ls hZ hR (by rw [rTk, ← hst, ← hz, rLost, if_neg (fun y => c145 y.2.2)]) (lv_sub hl [0, 1, 2] rfl)
                · refine lv_aload_n hx hb d_Mod_tick_148 rfl (lv_at hl 0 rfl) ?_
                  refine mm_get (v := .ref (ad 14)) E hZ cl_Mod fl_Mod_48 (by decide) hR.1.1 rfl d_Mod_tick_149 ?_
                  refine lv_iload hx hb d_Mod_tick_152 (lv_at hl 2 rfl) ?_
                  refine lv_iconst (v := 1) hx hb d_Mod_tick_154 (by decide) ?_
                  refine rr_zast 14 rfl rfl E hZ hR bo_1 rfl (show i < 200 by omega) d_Mod_tick_155 (fun M H locs hZ hR => ?_)
                  refine lv_aload_n hx hb d_Mod_tick_156 rfl (lv_at hl 0 rfl) ?_
                  refine lv_iload hx hb d_Mod_tick_157 (lv_at hl 2 rfl) ?_
                  refine lv_iconst (v := 2) hx hb d_Mod_tick_159 (by decide) ?_
                  refine mm_callv (mm_runV (As := [.int (nI i), .int 2]) (rest := []) E hZ hml hl.1 lk_Mod_134 me_Mod_tell in_Mod_tell (c_Mod_tell l g hR.1 (i := i) (n := nz) hi2 2 (va_up_self _ _ _) (by omega)) hR.1.1 cl_Mod.1 ⟨Nat.le_of_ble_eq_true rfl, Nat.le_of_ble_eq_true rfl⟩ rfl (Nat.le_of_ble_eq_true rfl) d_Mod_tick_160 ⟨Nat.le_of_ble_eq_true rfl, Nat.le_of_ble_eq_true rfl⟩) hZ (fun M1 H locs hp hZ => ?_)
                  have hR := hR.step (tell_post hp)
                  rw [bx_uu] at hR
                  generalize M1 = M at hZ hR
                  exact J163 _ _ _ M H locs ls hZ hR (by rw [rTk, ← hst, ← hz, rLost, if_pos ⟨Int32.not_le.mp c116, Int64.not_le.mp c135, c145⟩]; exact congrArg (Prod.mk _) (congrArg (fun x => (x, nz + 1)) (tell_up14 _ _ _ _ _))) (lv_sub hl [0, 1, 2] rfl)
          refine lv_aload_n hx hb d_Mod_tick_43 rfl (lv_at hl 0 rfl) ?_
          refine mm_get (v := .ref (ad 10)) E hZ cl_Mod fl_Mod_36 (by decide) hR.1.1 rfl d_Mod_tick_44 ?_
          refine lv_iload hx hb d_Mod_tick_47 (lv_at hl 2 rfl) ?_
          refine rr_iald 10 rfl rfl E hZ hR rfl (show i < 200 by omega) d_Mod_tick_49 ?_
          refine lv_if_le (tgt := 109) hx hb d_Mod_tick_50 (by decide) (fun c50 => ?_) (fun c50 => ?_)
          · exact J109 Ix Lx nx M H locs ls hZ hR (by rw [rLate, if_neg (fun y => absurd y.1 (Int32.not_lt.mpr c50))]) (lv_sub hl [0, 1, 2] rfl)
          · refine lv_aload_n hx hb d_Mod_tick_53 rfl (lv_at hl 0 rfl) ?_
            refine mm_get (v := .ref (ad 12)) E hZ cl_Mod fl_Mod_42 (by decide) hR.1.1 rfl d_Mod_tick_54 ?_
            refine lv_iload hx hb d_Mod_tick_57 (lv_at hl 2 rfl) ?_
            refine rr_lald 12 rfl E hZ hR rfl (show i < 200 by omega) d_Mod_tick_59 ?_
            refine lv_aload_n hx hb d_Mod_tick_60 rfl (lv_at hl 0 rfl) ?_
            refine mm_get (v := .long t) E hZ cl_Mod fl_Mod_128 (by decide) hR.1.1 rfl d_Mod_tick_61 ?_
            refine W.lcmp hx hb d_Mod_tick_64 ?_
            refine lv_if_ge (tgt := 109) hx hb d_Mod_tick_65 (by decide) (fun c65 => ?_) (fun c65 => ?_)
            · have c65 := (lg_cmp_ge _ _).mp c65
              exact J109 Ix Lx nx M H locs ls hZ hR (by rw [rLate, if_neg (fun y => absurd y.2.1 (Int64.not_lt.mpr c65))]) (lv_sub hl [0, 1, 2] rfl)
            · have c65 := mt (lg_cmp_ge _ _).mpr c65
              refine lv_aload_n hx hb d_Mod_tick_68 rfl (lv_at hl 0 rfl) ?_
              refine mm_get (v := .ref (ad 13)) E hZ cl_Mod fl_Mod_45 (by decide) hR.1.1 rfl d_Mod_tick_69 ?_
              refine lv_iload hx hb d_Mod_tick_72 (lv_at hl 2 rfl) ?_
              refine rr_zald 13 rfl rfl E hZ hR rfl (show i < 200 by omega) d_Mod_tick_74 ?_
              refine lv_if_ne (tgt := 109) hx hb d_Mod_tick_75 (by decide) (fun c75 => ?_) (fun c75 => ?_)
              · exact J109 Ix Lx nx M H locs ls hZ hR (by rw [rLate, if_neg (fun y => c75 y.2.2)]) (lv_sub hl [0, 1, 2] rfl)
              · obtain ⟨p5, hp5, hp11⟩ := hat i hi2 (by rw [← h10]; exact Int32.not_le.mp c50)
                rw [← h11] at hp11
                refine lv_aload_n hx hb d_Mod_tick_78 rfl (lv_at hl 0 rfl) ?_
                refine mm_get (v := .ref (ad 13)) E hZ cl_Mod fl_Mod_45 (by decide) hR.1.1 rfl d_Mod_tick_79 ?_
                refine lv_iload hx hb d_Mod_tick_82 (lv_at hl 2 rfl) ?_
                refine lv_iconst (v := 1) hx hb d_Mod_tick_84 (by decide) ?_
                refine rr_zast 13 rfl rfl E hZ hR bo_1 rfl (show i < 200 by omega) d_Mod_tick_85 (fun M H locs hZ hR => ?_)
                refine lv_aload_n hx hb d_Mod_tick_86 rfl (lv_at hl 0 rfl) ?_
                refine mm_get (v := .ref (ad 21)) E hZ cl_Mod fl_Mod_60 (by decide) hR.1.1 rfl d_Mod_tick_87 ?_
                refine lv_aload_n hx hb d_Mod_tick_90 rfl (lv_at hl 0 rfl) ?_
                refine mm_get (v := .ref (ad 11)) E hZ cl_Mod fl_Mod_39 (by decide) hR.1.1 rfl d_Mod_tick_91 ?_
                refine lv_iload hx hb d_Mod_tick_94 (lv_at hl 2 rfl) ?_
                refine rr_iald 11 rfl rfl E hZ hR rfl (show i < 200 by omega) d_Mod_tick_96 ?_
                refine lv_dup2_11 hx hb d_Mod_tick_97 rfl rfl ?_
                refine rr_iald 21 rfl rfl E hZ hR (show (up2 Ix 13 i 1) 11 i = nI p5 by rw [up2_f _ _ _ (by decide)]; exact hp11) (show p5 < 50 by omega) d_Mod_tick_98 ?_
                refine lv_iconst (v := 1) hx hb d_Mod_tick_99 (by decide) ?_
                refine lv_iadd hx hb d_Mod_tick_100 ?_
                refine rr_iast 21 rfl rfl E hZ hR (show (up2 Ix 13 i 1) 11 i = nI p5 by rw [up2_f _ _ _ (by decide)]; exact hp11) (show p5 < 50 by omega) d_Mod_tick_101 (fun M H locs hZ hR => ?_)
                refine lv_aload_n hx hb d_Mod_tick_102 rfl (lv_at hl 0 rfl) ?_
                refine lv_iload hx hb d_Mod_tick_103 (lv_at hl 2 rfl) ?_
                refine lv_iconst (v := 1) hx hb d_Mod_tick_105 (by decide) ?_
                refine mm_callv (mm_runV (As := [.int (nI i), .int 1]) (rest := []) E hZ hml hl.1 lk_Mod_134 me_Mod_tell in_Mod_tell (c_Mod_tell l g hR.1 (i := i) (n := nx) hi2 1 (va_up_self _ _ _) (by omega)) hR.1.1 cl_Mod.1 ⟨Nat.le_of_ble_eq_true rfl, Nat.le_of_ble_eq_true rfl⟩ rfl (Nat.le_of_ble_eq_true rfl) d_Mod_tick_106 ⟨Nat.le_of_ble_eq_true rfl, Nat.le_of_ble_eq_true rfl⟩) hZ (fun M1 H locs hp hZ => ?_)
                have hR := hR.step (tell_post hp)
                rw [bx_uu] at hR
                generalize M1 = M at hZ hR
                exact J109 _ _ _ M H locs ls hZ hR (by
                  rw [rLate, if_pos ⟨Int32.not_le.mp c50, Int64.not_le.mp c65, c75⟩]
                  simp only [hp11, nI_clamp (show p5 < 2 ^ 31 by omega)]
                  exact congr (congrArg Prod.mk (by rw [up2_f _ _ _ (show 21 ≠ 13 by decide)])) (congrArg (fun x => (x, nx + 1)) (tell_up21 _ _ _ _ _ _ _ _))) (lv_sub hl [0, 1, 2] rfl)
    have hR : Rq g M0 M q ad I L (va_up (va_up S 0 0) 18 (nI n0)) t := by rw [va_up_id _ (show (va_up S 0 0) 18 = nI n0 from (va_up_ne _ _ (by decide)).trans hn)]; exact hR
    exact loop 201 I L n0 0 M H locs ls hZ hR (Nat.zero_le _) rfl (by omega) (lv_sub hl [2, 1, 0] rfl)
  · refine lv_bipush (v := (-102)) hx hb d_Mod_tick_19 (by decide) ?_
    exact mm_iret (v := (-102)) E hr hlk eQ hZ d_Mod_tick_21 ⟨_, rfl, Or.inl ⟨b32_eq0.mp (hp ▸ c16), rfl, hR⟩⟩
