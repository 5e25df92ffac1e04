/-! THE REFERENCE: its constructor -/
theorem rI_cases {k : Nat} (h : rI k = true) : k = 2 ∨ k = 3 ∨ k = 4 ∨ k = 6 ∨ k = 7 ∨ k = 10 ∨ k = 11 ∨ k = 13 ∨ k = 14 ∨ k = 15 ∨ k = 20 ∨ k = 21 ∨ k = 22 ∨ k = 23 ∨ k = 25 := by
  unfold rI at h
  split at h <;> first | (simp; done) | cases h
theorem rL_cases {k : Nat} (h : rL k = true) : k = 5 ∨ k = 8 ∨ k = 9 ∨ k = 12 ∨ k = 19 := by
  unfold rL at h
  split at h <;> first | (simp; done) | cases h
abbrev rz_fs (f : Nat → Value) : List Value := [.int 0, .int 0, f 2, f 3, f 4, f 5, f 6, f 7, f 8, f 9, f 10, f 11, f 12, f 13, f 14, f 15, .int 0, .long 0, .int 0, f 19, f 20, f 21, f 22, f 23, .int 0, f 25]
/-- the items' states when i of them are set -/
def rz_I (i : Nat) : Nat → Nat → Int32 := fun k j => if k = 7 ∧ j < i then -1 else 0
theorem rz_0 : (fun _ _ => 0 : Nat → Nat → Int32) = rz_I 0 := by
  funext k j
  unfold rz_I
  rw [if_neg (by omega)]
theorem rz_step (i : Nat) : up2 (rz_I i) 7 i (-1) = rz_I (i + 1) := by
  funext k j
  by_cases hk : k = 7
  · subst hk
    by_cases hj : j = i
    · subst hj; rw [up2_s]; unfold rz_I; rw [if_pos ⟨rfl, by omega⟩]
    · rw [up2_j _ _ _ hj]; unfold rz_I
      by_cases h : j < i
      · rw [if_pos ⟨rfl, h⟩, if_pos ⟨rfl, by omega⟩]
      · rw [if_neg (by omega), if_neg (by omega)]
  · rw [up2_f _ _ _ hk]; unfold rz_I
    rw [if_neg (by omega), if_neg (by omega)]
set_option maxHeartbeats 4000000 in
set_option maxRecDepth 100000 in
theorem c_Mod_init (l : Launch) (g : mm_G) {M0 : mm_M} {q : Nat} (h0 : M0 q = some (ob 20 9 (rz_fs (fun _ => .null)))) : Cv l g y_Mod_init b_Mod_init 2 (rk 1 20 20 44951) M0 [.ref q] (fun M' => ∃ ad, Rq g M0 M' q ad (rz_I 200) (fun _ _ => 0) (fun _ => 0) 0) := by
  refine mm_enter (by decide) (Nat.le_of_ble_eq_true rfl) (fun pG eV s m args below meth cdx ls Q E hml hr hlk hnm hZ hl eQ => ?_)
  have hx := E.1
  have hb := E.2.1
  have hl : lv_has ls 2 [(0, .ref q)] := hl
  have hs : ∀ t, (t < 20 ∨ 47 ≤ t) → mm_same t M0 M0 := fun _ _ => mm_same.rf
  have hq : M0 q = some (ob 20 9 (rz_fs (fun _ => .null))) := h0
  refine lv_aload_n hx hb d_Mod_init_0 rfl (lv_at hl 0 rfl) ?_
  refine mm_objI E hml hl.1 w_612 w_30 w_31 (Nat.le_of_ble_eq_true rfl) (Nat.le_of_ble_eq_true rfl) d_Mod_init_1 ?_
  refine lv_aload_n hx hb d_Mod_init_4 rfl (lv_at hl 0 rfl) ?_
  refine lv_bipush (v := 41) hx hb d_Mod_init_5 (by decide) ?_
  refine mm_newi 23 (t0 := 0) (cA := g.2.2 0) (N := 41) E hZ rfl w_110 (by decide) (by decide) (by decide) (Nat.le_of_ble_eq_true rfl) (Nat.le_of_ble_eq_true rfl) d_Mod_init_7 (fun a2 H hB2 hN2 hZ => ?_)
  obtain ⟨Ma2, eMa2⟩ : ∃ z : mm_M, z = mm_up M0 a2 (ai 23 (g.2.2 0) 41 (fun _ => 0)) := ⟨_, rfl⟩
  rw [← eMa2] at hZ
  replace hs : ∀ t, (t < 20 ∨ 47 ≤ t) → mm_same t M0 Ma2 := fun t ht => by rw [eMa2]; exact (hs t ht).tr (mm_same.new hN2 _)
  replace hq := (congrFun eMa2 q).trans ((mm_ne _ _ (mm_apartN hq hN2)).trans hq)
  have h2 := (congrFun eMa2 a2).trans (mm_self _ _ _)
  refine mm_putF (k := 2) E hnm hZ cl_Mod w_615 (by decide) rfl rfl hq (by decide) rfl rfl (Nat.le_of_ble_eq_true rfl) d_Mod_init_9 (fun H locs hZ => ?_)
  obtain ⟨Mb2, eMb2⟩ : ∃ z : mm_M, z = mm_up Ma2 q (ob 20 9 [.int 0, .int 0, .ref a2, .null, .null, .null, .null, .null, .null, .null, .null, .null, .null, .null, .null, .null, .int 0, .long 0, .int 0, .null, .null, .null, .null, .null, .int 0, .null]) := ⟨_, rfl⟩
  replace hZ : mm_S g s Mb2 H locs := by rw [eMb2]; exact hZ
  replace hs : ∀ t, (t < 20 ∨ 47 ≤ t) → mm_same t M0 Mb2 := fun t ht => by rw [eMb2]; exact (hs t ht).tr (mm_same.up hq (by omega) _)
  replace h2 := (congrFun eMb2 a2).trans ((mm_ne _ _ (mm_tag h2 hq (by decide))).trans h2)
  replace hq := (congrFun eMb2 q).trans (mm_self _ _ _)
  refine lv_aload_n hx hb d_Mod_init_12 rfl (lv_at hl 0 rfl) ?_
  refine lv_bipush (v := 41) hx hb d_Mod_init_13 (by decide) ?_
  refine mm_newi 24 (t0 := 0) (cA := g.2.2 0) (N := 41) E hZ rfl w_110 (by decide) (by decide) (by decide) (Nat.le_of_ble_eq_true rfl) (Nat.le_of_ble_eq_true rfl) d_Mod_init_15 (fun a3 H hB3 hN3 hZ => ?_)
  obtain ⟨Ma3, eMa3⟩ : ∃ z : mm_M, z = mm_up Mb2 a3 (ai 24 (g.2.2 0) 41 (fun _ => 0)) := ⟨_, rfl⟩
  rw [← eMa3] at hZ
  replace hs : ∀ t, (t < 20 ∨ 47 ≤ t) → mm_same t M0 Ma3 := fun t ht => by rw [eMa3]; exact (hs t ht).tr (mm_same.new hN3 _)
  replace hq := (congrFun eMa3 q).trans ((mm_ne _ _ (mm_apartN hq hN3)).trans hq)
  replace h2 := (congrFun eMa3 a2).trans ((mm_ne _ _ (mm_apartN h2 hN3)).trans h2)
  have h3 := (congrFun eMa3 a3).trans (mm_self _ _ _)
  refine mm_putF (k := 3) E hnm hZ cl_Mod w_616 (by decide) rfl rfl hq (by decide) rfl rfl (Nat.le_of_ble_eq_true rfl) d_Mod_init_17 (fun H locs hZ => ?_)
  obtain ⟨Mb3, eMb3⟩ : ∃ z : mm_M, z = mm_up Ma3 q (ob 20 9 [.int 0, .int 0, .ref a2, .ref a3, .null, .null, .null, .null, .null, .null, .null, .null, .null, .null, .null, .null, .int 0, .long 0, .int 0, .null, .null, .null, .null, .null, .int 0, .null]) := ⟨_, rfl⟩
  replace hZ : mm_S g s Mb3 H locs := by rw [eMb3]; exact hZ
  replace hs : ∀ t, (t < 20 ∨ 47 ≤ t) → mm_same t M0 Mb3 := fun t ht => by rw [eMb3]; exact (hs t ht).tr (mm_same.up hq (by omega) _)
  replace h2 := (congrFun eMb3 a2).trans ((mm_ne _ _ (mm_tag h2 hq (by decide))).trans h2)
  replace h3 := (congrFun eMb3 a3).trans ((mm_ne _ _ (mm_tag h3 hq (by decide))).trans h3)
  replace hq := (congrFun eMb3 q).trans (mm_self _ _ _)
  refine lv_aload_n hx hb d_Mod_init_20 rfl (lv_at hl 0 rfl) ?_
  refine lv_bipush (v := 41) hx hb d_Mod_init_21 (by decide) ?_
  refine mm_newi 25 (t0 := 0) (cA := g.2.2 0) (N := 41) E hZ rfl w_110 (by decide) (by decide) (by decide) (Nat.le_of_ble_eq_true rfl) (Nat.le_of_ble_eq_true rfl) d_Mod_init_23 (fun a4 H hB4 hN4 hZ => ?_)
  obtain ⟨Ma4, eMa4⟩ : ∃ z : mm_M, z = mm_up Mb3 a4 (ai 25 (g.2.2 0) 41 (fun _ => 0)) := ⟨_, rfl⟩
  rw [← eMa4] at hZ
  replace hs : ∀ t, (t < 20 ∨ 47 ≤ t) → mm_same t M0 Ma4 := fun t ht => by rw [eMa4]; exact (hs t ht).tr (mm_same.new hN4 _)
  replace hq := (congrFun eMa4 q).trans ((mm_ne _ _ (mm_apartN hq hN4)).trans hq)
  replace h2 := (congrFun eMa4 a2).trans ((mm_ne _ _ (mm_apartN h2 hN4)).trans h2)
  replace h3 := (congrFun eMa4 a3).trans ((mm_ne _ _ (mm_apartN h3 hN4)).trans h3)
  have h4 := (congrFun eMa4 a4).trans (mm_self _ _ _)
  refine mm_putF (k := 4) E hnm hZ cl_Mod w_617 (by decide) rfl rfl hq (by decide) rfl rfl (Nat.le_of_ble_eq_true rfl) d_Mod_init_25 (fun H locs hZ => ?_)
  obtain ⟨Mb4, eMb4⟩ : ∃ z : mm_M, z = mm_up Ma4 q (ob 20 9 [.int 0, .int 0, .ref a2, .ref a3, .ref a4, .null, .null, .null, .null, .null, .null, .null, .null, .null, .null, .null, .int 0, .long 0, .int 0, .null, .null, .null, .null, .null, .int 0, .null]) := ⟨_, rfl⟩
  replace hZ : mm_S g s Mb4 H locs := by rw [eMb4]; exact hZ
  replace hs : ∀ t, (t < 20 ∨ 47 ≤ t) → mm_same t M0 Mb4 := fun t ht => by rw [eMb4]; exact (hs t ht).tr (mm_same.up hq (by omega) _)
  replace h2 := (congrFun eMb4 a2).trans ((mm_ne _ _ (mm_tag h2 hq (by decide))).trans h2)
  replace h3 := (congrFun eMb4 a3).trans ((mm_ne _ _ (mm_tag h3 hq (by decide))).trans h3)
  replace h4 := (congrFun eMb4 a4).trans ((mm_ne _ _ (mm_tag h4 hq (by decide))).trans h4)
  replace hq := (congrFun eMb4 q).trans (mm_self _ _ _)
  refine lv_aload_n hx hb d_Mod_init_28 rfl (lv_at hl 0 rfl) ?_
  refine lv_bipush (v := 41) hx hb d_Mod_init_29 (by decide) ?_
  refine mm_newl 26 (t0 := 1) (cA := g.2.2 1) (N := 41) E hZ rfl w_84 (by decide) (by decide) (by decide) (Nat.le_of_ble_eq_true rfl) (Nat.le_of_ble_eq_true rfl) d_Mod_init_31 (fun a5 H hB5 hN5 hZ => ?_)
  obtain ⟨Ma5, eMa5⟩ : ∃ z : mm_M, z = mm_up Mb4 a5 (al 26 (g.2.2 1) 41 (fun _ => 0)) := ⟨_, rfl⟩
  rw [← eMa5] at hZ
  replace hs : ∀ t, (t < 20 ∨ 47 ≤ t) → mm_same t M0 Ma5 := fun t ht => by rw [eMa5]; exact (hs t ht).tr (mm_same.new hN5 _)
  replace hq := (congrFun eMa5 q).trans ((mm_ne _ _ (mm_apartN hq hN5)).trans hq)
  replace h2 := (congrFun eMa5 a2).trans ((mm_ne _ _ (mm_apartN h2 hN5)).trans h2)
  replace h3 := (congrFun eMa5 a3).trans ((mm_ne _ _ (mm_apartN h3 hN5)).trans h3)
  replace h4 := (congrFun eMa5 a4).trans ((mm_ne _ _ (mm_apartN h4 hN5)).trans h4)
  have h5 := (congrFun eMa5 a5).trans (mm_self _ _ _)
  refine mm_putF (k := 5) E hnm hZ cl_Mod w_618 (by decide) rfl rfl hq (by decide) rfl rfl (Nat.le_of_ble_eq_true rfl) d_Mod_init_33 (fun H locs hZ => ?_)
  obtain ⟨Mb5, eMb5⟩ : ∃ z : mm_M, z = mm_up Ma5 q (ob 20 9 [.int 0, .int 0, .ref a2, .ref a3, .ref a4, .ref a5, .null, .null, .null, .null, .null, .null, .null, .null, .null, .null, .int 0, .long 0, .int 0, .null, .null, .null, .null, .null, .int 0, .null]) := ⟨_, rfl⟩
  replace hZ : mm_S g s Mb5 H locs := by rw [eMb5]; exact hZ
  replace hs : ∀ t, (t < 20 ∨ 47 ≤ t) → mm_same t M0 Mb5 := fun t ht => by rw [eMb5]; exact (hs t ht).tr (mm_same.up hq (by omega) _)
  replace h2 := (congrFun eMb5 a2).trans ((mm_ne _ _ (mm_tag h2 hq (by decide))).trans h2)
  replace h3 := (congrFun eMb5 a3).trans ((mm_ne _ _ (mm_tag h3 hq (by decide))).trans h3)
  replace h4 := (congrFun eMb5 a4).trans ((mm_ne _ _ (mm_tag h4 hq (by decide))).trans h4)
  replace h5 := (congrFun eMb5 a5).trans ((mm_ne _ _ (mm_tag h5 hq (by decide))).trans h5)
  replace hq := (congrFun eMb5 q).trans (mm_self _ _ _)
  refine lv_aload_n hx hb d_Mod_init_36 rfl (lv_at hl 0 rfl) ?_
  refine lv_bipush (v := 41) hx hb d_Mod_init_37 (by decide) ?_
  refine mm_newz 27 (t0 := 2) (cA := g.2.2 2) (N := 41) E hZ rfl w_692 (by decide) (by decide) (by decide) (Nat.le_of_ble_eq_true rfl) (Nat.le_of_ble_eq_true rfl) d_Mod_init_39 (fun a6 H hB6 hN6 hZ => ?_)
  obtain ⟨Ma6, eMa6⟩ : ∃ z : mm_M, z = mm_up Mb5 a6 (ai 27 (g.2.2 2) 41 (fun _ => 0)) := ⟨_, rfl⟩
  rw [← eMa6] at hZ
  replace hs : ∀ t, (t < 20 ∨ 47 ≤ t) → mm_same t M0 Ma6 := fun t ht => by rw [eMa6]; exact (hs t ht).tr (mm_same.new hN6 _)
  replace hq := (congrFun eMa6 q).trans ((mm_ne _ _ (mm_apartN hq hN6)).trans hq)
  replace h2 := (congrFun eMa6 a2).trans ((mm_ne _ _ (mm_apartN h2 hN6)).trans h2)
  replace h3 := (congrFun eMa6 a3).trans ((mm_ne _ _ (mm_apartN h3 hN6)).trans h3)
  replace h4 := (congrFun eMa6 a4).trans ((mm_ne _ _ (mm_apartN h4 hN6)).trans h4)
  replace h5 := (congrFun eMa6 a5).trans ((mm_ne _ _ (mm_apartN h5 hN6)).trans h5)
  have h6 := (congrFun eMa6 a6).trans (mm_self _ _ _)
  refine mm_putF (k := 6) E hnm hZ cl_Mod w_619 (by decide) rfl rfl hq (by decide) rfl rfl (Nat.le_of_ble_eq_true rfl) d_Mod_init_41 (fun H locs hZ => ?_)
  obtain ⟨Mb6, eMb6⟩ : ∃ z : mm_M, z = mm_up Ma6 q (ob 20 9 [.int 0, .int 0, .ref a2, .ref a3, .ref a4, .ref a5, .ref a6, .null, .null, .null, .null, .null, .null, .null, .null, .null, .int 0, .long 0, .int 0, .null, .null, .null, .null, .null, .int 0, .null]) := ⟨_, rfl⟩
  replace hZ : mm_S g s Mb6 H locs := by rw [eMb6]; exact hZ
  replace hs : ∀ t, (t < 20 ∨ 47 ≤ t) → mm_same t M0 Mb6 := fun t ht => by rw [eMb6]; exact (hs t ht).tr (mm_same.up hq (by omega) _)
  replace h2 := (congrFun eMb6 a2).trans ((mm_ne _ _ (mm_tag h2 hq (by decide))).trans h2)
  replace h3 := (congrFun eMb6 a3).trans ((mm_ne _ _ (mm_tag h3 hq (by decide))).trans h3)
  replace h4 := (congrFun eMb6 a4).trans ((mm_ne _ _ (mm_tag h4 hq (by decide))).trans h4)
  replace h5 := (congrFun eMb6 a5).trans ((mm_ne _ _ (mm_tag h5 hq (by decide))).trans h5)
  replace h6 := (congrFun eMb6 a6).trans ((mm_ne _ _ (mm_tag h6 hq (by decide))).trans h6)
  replace hq := (congrFun eMb6 q).trans (mm_self _ _ _)
  refine lv_aload_n hx hb d_Mod_init_44 rfl (lv_at hl 0 rfl) ?_
  refine lv_sipush (v := 200) hx hb d_Mod_init_45 (by decide) ?_
  refine mm_newi 28 (t0 := 0) (cA := g.2.2 0) (N := 200) E hZ rfl w_110 (by decide) (by decide) (by decide) (Nat.le_of_ble_eq_true rfl) (Nat.le_of_ble_eq_true rfl) d_Mod_init_48 (fun a7 H hB7 hN7 hZ => ?_)
  obtain ⟨Ma7, eMa7⟩ : ∃ z : mm_M, z = mm_up Mb6 a7 (ai 28 (g.2.2 0) 200 (fun _ => 0)) := ⟨_, rfl⟩
  rw [← eMa7] at hZ
  replace hs : ∀ t, (t < 20 ∨ 47 ≤ t) → mm_same t M0 Ma7 := fun t ht => by rw [eMa7]; exact (hs t ht).tr (mm_same.new hN7 _)
  replace hq := (congrFun eMa7 q).trans ((mm_ne _ _ (mm_apartN hq hN7)).trans hq)
  replace h2 := (congrFun eMa7 a2).trans ((mm_ne _ _ (mm_apartN h2 hN7)).trans h2)
  replace h3 := (congrFun eMa7 a3).trans ((mm_ne _ _ (mm_apartN h3 hN7)).trans h3)
  replace h4 := (congrFun eMa7 a4).trans ((mm_ne _ _ (mm_apartN h4 hN7)).trans h4)
  replace h5 := (congrFun eMa7 a5).trans ((mm_ne _ _ (mm_apartN h5 hN7)).trans h5)
  replace h6 := (congrFun eMa7 a6).trans ((mm_ne _ _ (mm_apartN h6 hN7)).trans h6)
  have h7 := (congrFun eMa7 a7).trans (mm_self _ _ _)
  refine mm_putF (k := 7) E hnm hZ cl_Mod w_620 (by decide) rfl rfl hq (by decide) rfl rfl (Nat.le_of_ble_eq_true rfl) d_Mod_init_50 (fun H locs hZ => ?_)
  obtain ⟨Mb7, eMb7⟩ : ∃ z : mm_M, z = mm_up Ma7 q (ob 20 9 [.int 0, .int 0, .ref a2, .ref a3, .ref a4, .ref a5, .ref a6, .ref a7, .null, .null, .null, .null, .null, .null, .null, .null, .int 0, .long 0, .int 0, .null, .null, .null, .null, .null, .int 0, .null]) := ⟨_, rfl⟩
  replace hZ : mm_S g s Mb7 H locs := by rw [eMb7]; exact hZ
  replace hs : ∀ t, (t < 20 ∨ 47 ≤ t) → mm_same t M0 Mb7 := fun t ht => by rw [eMb7]; exact (hs t ht).tr (mm_same.up hq (by omega) _)
  replace h2 := (congrFun eMb7 a2).trans ((mm_ne _ _ (mm_tag h2 hq (by decide))).trans h2)
  replace h3 := (congrFun eMb7 a3).trans ((mm_ne _ _ (mm_tag h3 hq (by decide))).trans h3)
  replace h4 := (congrFun eMb7 a4).trans ((mm_ne _ _ (mm_tag h4 hq (by decide))).trans h4)
  replace h5 := (congrFun eMb7 a5).trans ((mm_ne _ _ (mm_tag h5 hq (by decide))).trans h5)
  replace h6 := (congrFun eMb7 a6).trans ((mm_ne _ _ (mm_tag h6 hq (by decide))).trans h6)
  replace h7 := (congrFun eMb7 a7).trans ((mm_ne _ _ (mm_tag h7 hq (by decide))).trans h7)
  replace hq := (congrFun eMb7 q).trans (mm_self _ _ _)
  refine lv_aload_n hx hb d_Mod_init_53 rfl (lv_at hl 0 rfl) ?_
  refine lv_sipush (v := 200) hx hb d_Mod_init_54 (by decide) ?_
  refine mm_newl 29 (t0 := 1) (cA := g.2.2 1) (N := 200) E hZ rfl w_84 (by decide) (by decide) (by decide) (Nat.le_of_ble_eq_true rfl) (Nat.le_of_ble_eq_true rfl) d_Mod_init_57 (fun a8 H hB8 hN8 hZ => ?_)
  obtain ⟨Ma8, eMa8⟩ : ∃ z : mm_M, z = mm_up Mb7 a8 (al 29 (g.2.2 1) 200 (fun _ => 0)) := ⟨_, rfl⟩
  rw [← eMa8] at hZ
  replace hs : ∀ t, (t < 20 ∨ 47 ≤ t) → mm_same t M0 Ma8 := fun t ht => by rw [eMa8]; exact (hs t ht).tr (mm_same.new hN8 _)
  replace hq := (congrFun eMa8 q).trans ((mm_ne _ _ (mm_apartN hq hN8)).trans hq)
  replace h2 := (congrFun eMa8 a2).trans ((mm_ne _ _ (mm_apartN h2 hN8)).trans h2)
  replace h3 := (congrFun eMa8 a3).trans ((mm_ne _ _ (mm_apartN h3 hN8)).trans h3)
  replace h4 := (congrFun eMa8 a4).trans ((mm_ne _ _ (mm_apartN h4 hN8)).trans h4)
  replace h5 := (congrFun eMa8 a5).trans ((mm_ne _ _ (mm_apartN h5 hN8)).trans h5)
  replace h6 := (congrFun eMa8 a6).trans ((mm_ne _ _ (mm_apartN h6 hN8)).trans h6)
  replace h7 := (congrFun eMa8 a7).trans ((mm_ne _ _ (mm_apartN h7 hN8)).trans h7)
  have h8 := (congrFun eMa8 a8).trans (mm_self _ _ _)
  refine mm_putF (k := 8) E hnm hZ cl_Mod w_621 (by decide) rfl rfl hq (by decide) rfl rfl (Nat.le_of_ble_eq_true rfl) d_Mod_init_59 (fun H locs hZ => ?_)
  obtain ⟨Mb8, eMb8⟩ : ∃ z : mm_M, z = mm_up Ma8 q (ob 20 9 [.int 0, .int 0, .ref a2, .ref a3, .ref a4, .ref a5, .ref a6, .ref a7, .ref a8, .null, .null, .null, .null, .null, .null, .null, .int 0, .long 0, .int 0, .null, .null, .null, .null, .null, .int 0, .null]) := ⟨_, rfl⟩
  replace hZ : mm_S g s Mb8 H locs := by rw [eMb8]; exact hZ
  replace hs : ∀ t, (t < 20 ∨ 47 ≤ t) → mm_same t M0 Mb8 := fun t ht => by rw [eMb8]; exact (hs t ht).tr (mm_same.up hq (by omega) _)
  replace h2 := (congrFun eMb8 a2).trans ((mm_ne _ _ (mm_tag h2 hq (by decide))).trans h2)
  replace h3 := (congrFun eMb8 a3).trans ((mm_ne _ _ (mm_tag h3 hq (by decide))).trans h3)
  replace h4 := (congrFun eMb8 a4).trans ((mm_ne _ _ (mm_tag h4 hq (by decide))).trans h4)
  replace h5 := (congrFun eMb8 a5).trans ((mm_ne _ _ (mm_tag h5 hq (by decide))).trans h5)
  replace h6 := (congrFun eMb8 a6).trans ((mm_ne _ _ (mm_tag h6 hq (by decide))).trans h6)
  replace h7 := (congrFun eMb8 a7).trans ((mm_ne _ _ (mm_tag h7 hq (by decide))).trans h7)
  replace h8 := (congrFun eMb8 a8).trans ((mm_ne _ _ (mm_tag h8 hq (by decide))).trans h8)
  replace hq := (congrFun eMb8 q).trans (mm_self _ _ _)
  refine lv_aload_n hx hb d_Mod_init_62 rfl (lv_at hl 0 rfl) ?_
  refine lv_sipush (v := 200) hx hb d_Mod_init_63 (by decide) ?_
  refine mm_newl 30 (t0 := 1) (cA := g.2.2 1) (N := 200) E hZ rfl w_84 (by decide) (by decide) (by decide) (Nat.le_of_ble_eq_true rfl) (Nat.le_of_ble_eq_true rfl) d_Mod_init_66 (fun a9 H hB9 hN9 hZ => ?_)
  obtain ⟨Ma9, eMa9⟩ : ∃ z : mm_M, z = mm_up Mb8 a9 (al 30 (g.2.2 1) 200 (fun _ => 0)) := ⟨_, rfl⟩
  rw [← eMa9] at hZ
  replace hs : ∀ t, (t < 20 ∨ 47 ≤ t) → mm_same t M0 Ma9 := fun t ht => by rw [eMa9]; exact (hs t ht).tr (mm_same.new hN9 _)
  replace hq := (congrFun eMa9 q).trans ((mm_ne _ _ (mm_apartN hq hN9)).trans hq)
  replace h2 := (congrFun eMa9 a2).trans ((mm_ne _ _ (mm_apartN h2 hN9)).trans h2)
  replace h3 := (congrFun eMa9 a3).trans ((mm_ne _ _ (mm_apartN h3 hN9)).trans h3)
  replace h4 := (congrFun eMa9 a4).trans ((mm_ne _ _ (mm_apartN h4 hN9)).trans h4)
  replace h5 := (congrFun eMa9 a5).trans ((mm_ne _ _ (mm_apartN h5 hN9)).trans h5)
  replace h6 := (congrFun eMa9 a6).trans ((mm_ne _ _ (mm_apartN h6 hN9)).trans h6)
  replace h7 := (congrFun eMa9 a7).trans ((mm_ne _ _ (mm_apartN h7 hN9)).trans h7)
  replace h8 := (congrFun eMa9 a8).trans ((mm_ne _ _ (mm_apartN h8 hN9)).trans h8)
  have h9 := (congrFun eMa9 a9).trans (mm_self _ _ _)
  refine mm_putF (k := 9) E hnm hZ cl_Mod w_622 (by decide) rfl rfl hq (by decide) rfl rfl (Nat.le_of_ble_eq_true rfl) d_Mod_init_68 (fun H locs hZ => ?_)
  obtain ⟨Mb9, eMb9⟩ : ∃ z : mm_M, z = mm_up Ma9 q (ob 20 9 [.int 0, .int 0, .ref a2, .ref a3, .ref a4, .ref a5, .ref a6, .ref a7, .ref a8, .ref a9, .null, .null, .null, .null, .null, .null, .int 0, .long 0, .int 0, .null, .null, .null, .null, .null, .int 0, .null]) := ⟨_, rfl⟩
  replace hZ : mm_S g s Mb9 H locs := by rw [eMb9]; exact hZ
  replace hs : ∀ t, (t < 20 ∨ 47 ≤ t) → mm_same t M0 Mb9 := fun t ht => by rw [eMb9]; exact (hs t ht).tr (mm_same.up hq (by omega) _)
  replace h2 := (congrFun eMb9 a2).trans ((mm_ne _ _ (mm_tag h2 hq (by decide))).trans h2)
  replace h3 := (congrFun eMb9 a3).trans ((mm_ne _ _ (mm_tag h3 hq (by decide))).trans h3)
  replace h4 := (congrFun eMb9 a4).trans ((mm_ne _ _ (mm_tag h4 hq (by decide))).trans h4)
  replace h5 := (congrFun eMb9 a5).trans ((mm_ne _ _ (mm_tag h5 hq (by decide))).trans h5)
  replace h6 := (congrFun eMb9 a6).trans ((mm_ne _ _ (mm_tag h6 hq (by decide))).trans h6)
  replace h7 := (congrFun eMb9 a7).trans ((mm_ne _ _ (mm_tag h7 hq (by decide))).trans h7)
  replace h8 := (congrFun eMb9 a8).trans ((mm_ne _ _ (mm_tag h8 hq (by decide))).trans h8)
  replace h9 := (congrFun eMb9 a9).trans ((mm_ne _ _ (mm_tag h9 hq (by decide))).trans h9)
  replace hq := (congrFun eMb9 q).trans (mm_self _ _ _)
  refine lv_aload_n hx hb d_Mod_init_71 rfl (lv_at hl 0 rfl) ?_
  refine lv_sipush (v := 200) hx hb d_Mod_init_72 (by decide) ?_
  refine mm_newi 31 (t0 := 0) (cA := g.2.2 0) (N := 200) E hZ rfl w_110 (by decide) (by decide) (by decide) (Nat.le_of_ble_eq_true rfl) (Nat.le_of_ble_eq_true rfl) d_Mod_init_75 (fun a10 H hB10 hN10 hZ => ?_)
  obtain ⟨Ma10, eMa10⟩ : ∃ z : mm_M, z = mm_up Mb9 a10 (ai 31 (g.2.2 0) 200 (fun _ => 0)) := ⟨_, rfl⟩
  rw [← eMa10] at hZ
  replace hs : ∀ t, (t < 20 ∨ 47 ≤ t) → mm_same t M0 Ma10 := fun t ht => by rw [eMa10]; exact (hs t ht).tr (mm_same.new hN10 _)
  replace hq := (congrFun eMa10 q).trans ((mm_ne _ _ (mm_apartN hq hN10)).trans hq)
  replace h2 := (congrFun eMa10 a2).trans ((mm_ne _ _ (mm_apartN h2 hN10)).trans h2)
  replace h3 := (congrFun eMa10 a3).trans ((mm_ne _ _ (mm_apartN h3 hN10)).trans h3)
  replace h4 := (congrFun eMa10 a4).trans ((mm_ne _ _ (mm_apartN h4 hN10)).trans h4)
  replace h5 := (congrFun eMa10 a5).trans ((mm_ne _ _ (mm_apartN h5 hN10)).trans h5)
  replace h6 := (congrFun eMa10 a6).trans ((mm_ne _ _ (mm_apartN h6 hN10)).trans h6)
  replace h7 := (congrFun eMa10 a7).trans ((mm_ne _ _ (mm_apartN h7 hN10)).trans h7)
  replace h8 := (congrFun eMa10 a8).trans ((mm_ne _ _ (mm_apartN h8 hN10)).trans h8)
  replace h9 := (congrFun eMa10 a9).trans ((mm_ne _ _ (mm_apartN h9 hN10)).trans h9)
  have h10 := (congrFun eMa10 a10).trans (mm_self _ _ _)
  refine mm_putF (k := 10) E hnm hZ cl_Mod w_623 (by decide) rfl rfl hq (by decide) rfl rfl (Nat.le_of_ble_eq_true rfl) d_Mod_init_77 (fun H locs hZ => ?_)
  obtain ⟨Mb10, eMb10⟩ : ∃ z : mm_M, z = mm_up Ma10 q (ob 20 9 [.int 0, .int 0, .ref a2, .ref a3, .ref a4, .ref a5, .ref a6, .ref a7, .ref a8, .ref a9, .ref a10, .null, .null, .null, .null, .null, .int 0, .long 0, .int 0, .null, .null, .null, .null, .null, .int 0, .null]) := ⟨_, rfl⟩
  replace hZ : mm_S g s Mb10 H locs := by rw [eMb10]; exact hZ
  replace hs : ∀ t, (t < 20 ∨ 47 ≤ t) → mm_same t M0 Mb10 := fun t ht => by rw [eMb10]; exact (hs t ht).tr (mm_same.up hq (by omega) _)
  replace h2 := (congrFun eMb10 a2).trans ((mm_ne _ _ (mm_tag h2 hq (by decide))).trans h2)
  replace h3 := (congrFun eMb10 a3).trans ((mm_ne _ _ (mm_tag h3 hq (by decide))).trans h3)
  replace h4 := (congrFun eMb10 a4).trans ((mm_ne _ _ (mm_tag h4 hq (by decide))).trans h4)
  replace h5 := (congrFun eMb10 a5).trans ((mm_ne _ _ (mm_tag h5 hq (by decide))).trans h5)
  replace h6 := (congrFun eMb10 a6).trans ((mm_ne _ _ (mm_tag h6 hq (by decide))).trans h6)
  replace h7 := (congrFun eMb10 a7).trans ((mm_ne _ _ (mm_tag h7 hq (by decide))).trans h7)
  replace h8 := (congrFun eMb10 a8).trans ((mm_ne _ _ (mm_tag h8 hq (by decide))).trans h8)
  replace h9 := (congrFun eMb10 a9).trans ((mm_ne _ _ (mm_tag h9 hq (by decide))).trans h9)
  replace h10 := (congrFun eMb10 a10).trans ((mm_ne _ _ (mm_tag h10 hq (by decide))).trans h10)
  replace hq := (congrFun eMb10 q).trans (mm_self _ _ _)
  refine lv_aload_n hx hb d_Mod_init_80 rfl (lv_at hl 0 rfl) ?_
  refine lv_sipush (v := 200) hx hb d_Mod_init_81 (by decide) ?_
  refine mm_newi 32 (t0 := 0) (cA := g.2.2 0) (N := 200) E hZ rfl w_110 (by decide) (by decide) (by decide) (Nat.le_of_ble_eq_true rfl) (Nat.le_of_ble_eq_true rfl) d_Mod_init_84 (fun a11 H hB11 hN11 hZ => ?_)
  obtain ⟨Ma11, eMa11⟩ : ∃ z : mm_M, z = mm_up Mb10 a11 (ai 32 (g.2.2 0) 200 (fun _ => 0)) := ⟨_, rfl⟩
  rw [← eMa11] at hZ
  replace hs : ∀ t, (t < 20 ∨ 47 ≤ t) → mm_same t M0 Ma11 := fun t ht => by rw [eMa11]; exact (hs t ht).tr (mm_same.new hN11 _)
  replace hq := (congrFun eMa11 q).trans ((mm_ne _ _ (mm_apartN hq hN11)).trans hq)
  replace h2 := (congrFun eMa11 a2).trans ((mm_ne _ _ (mm_apartN h2 hN11)).trans h2)
  replace h3 := (congrFun eMa11 a3).trans ((mm_ne _ _ (mm_apartN h3 hN11)).trans h3)
  replace h4 := (congrFun eMa11 a4).trans ((mm_ne _ _ (mm_apartN h4 hN11)).trans h4)
  replace h5 := (congrFun eMa11 a5).trans ((mm_ne _ _ (mm_apartN h5 hN11)).trans h5)
  replace h6 := (congrFun eMa11 a6).trans ((mm_ne _ _ (mm_apartN h6 hN11)).trans h6)
  replace h7 := (congrFun eMa11 a7).trans ((mm_ne _ _ (mm_apartN h7 hN11)).trans h7)
  replace h8 := (congrFun eMa11 a8).trans ((mm_ne _ _ (mm_apartN h8 hN11)).trans h8)
  replace h9 := (congrFun eMa11 a9).trans ((mm_ne _ _ (mm_apartN h9 hN11)).trans h9)
  replace h10 := (congrFun eMa11 a10).trans ((mm_ne _ _ (mm_apartN h10 hN11)).trans h10)
  have h11 := (congrFun eMa11 a11).trans (mm_self _ _ _)
  refine mm_putF (k := 11) E hnm hZ cl_Mod w_624 (by decide) rfl rfl hq (by decide) rfl rfl (Nat.le_of_ble_eq_true rfl) d_Mod_init_86 (fun H locs hZ => ?_)
  obtain ⟨Mb11, eMb11⟩ : ∃ z : mm_M, z = mm_up Ma11 q (ob 20 9 [.int 0, .int 0, .ref a2, .ref a3, .ref a4, .ref a5, .ref a6, .ref a7, .ref a8, .ref a9, .ref a10, .ref a11, .null, .null, .null, .null, .int 0, .long 0, .int 0, .null, .null, .null, .null, .null, .int 0, .null]) := ⟨_, rfl⟩
  replace hZ : mm_S g s Mb11 H locs := by rw [eMb11]; exact hZ
  replace hs : ∀ t, (t < 20 ∨ 47 ≤ t) → mm_same t M0 Mb11 := fun t ht => by rw [eMb11]; exact (hs t ht).tr (mm_same.up hq (by omega) _)
  replace h2 := (congrFun eMb11 a2).trans ((mm_ne _ _ (mm_tag h2 hq (by decide))).trans h2)
  replace h3 := (congrFun eMb11 a3).trans ((mm_ne _ _ (mm_tag h3 hq (by decide))).trans h3)
  replace h4 := (congrFun eMb11 a4).trans ((mm_ne _ _ (mm_tag h4 hq (by decide))).trans h4)
  replace h5 := (congrFun eMb11 a5).trans ((mm_ne _ _ (mm_tag h5 hq (by decide))).trans h5)
  replace h6 := (congrFun eMb11 a6).trans ((mm_ne _ _ (mm_tag h6 hq (by decide))).trans h6)
  replace h7 := (congrFun eMb11 a7).trans ((mm_ne _ _ (mm_tag h7 hq (by decide))).trans h7)
  replace h8 := (congrFun eMb11 a8).trans ((mm_ne _ _ (mm_tag h8 hq (by decide))).trans h8)
  replace h9 := (congrFun eMb11 a9).trans ((mm_ne _ _ (mm_tag h9 hq (by decide))).trans h9)
  replace h10 := (congrFun eMb11 a10).trans ((mm_ne _ _ (mm_tag h10 hq (by decide))).trans h10)
  replace h11 := (congrFun eMb11 a11).trans ((mm_ne _ _ (mm_tag h11 hq (by decide))).trans h11)
  replace hq := (congrFun eMb11 q).trans (mm_self _ _ _)
  refine lv_aload_n hx hb d_Mod_init_89 rfl (lv_at hl 0 rfl) ?_
  refine lv_sipush (v := 200) hx hb d_Mod_init_90 (by decide) ?_
  refine mm_newl 33 (t0 := 1) (cA := g.2.2 1) (N := 200) E hZ rfl w_84 (by decide) (by decide) (by decide) (Nat.le_of_ble_eq_true rfl) (Nat.le_of_ble_eq_true rfl) d_Mod_init_93 (fun a12 H hB12 hN12 hZ => ?_)
  obtain ⟨Ma12, eMa12⟩ : ∃ z : mm_M, z = mm_up Mb11 a12 (al 33 (g.2.2 1) 200 (fun _ => 0)) := ⟨_, rfl⟩
  rw [← eMa12] at hZ
  replace hs : ∀ t, (t < 20 ∨ 47 ≤ t) → mm_same t M0 Ma12 := fun t ht => by rw [eMa12]; exact (hs t ht).tr (mm_same.new hN12 _)
  replace hq := (congrFun eMa12 q).trans ((mm_ne _ _ (mm_apartN hq hN12)).trans hq)
  replace h2 := (congrFun eMa12 a2).trans ((mm_ne _ _ (mm_apartN h2 hN12)).trans h2)
  replace h3 := (congrFun eMa12 a3).trans ((mm_ne _ _ (mm_apartN h3 hN12)).trans h3)
  replace h4 := (congrFun eMa12 a4).trans ((mm_ne _ _ (mm_apartN h4 hN12)).trans h4)
  replace h5 := (congrFun eMa12 a5).trans ((mm_ne _ _ (mm_apartN h5 hN12)).trans h5)
  replace h6 := (congrFun eMa12 a6).trans ((mm_ne _ _ (mm_apartN h6 hN12)).trans h6)
  replace h7 := (congrFun eMa12 a7).trans ((mm_ne _ _ (mm_apartN h7 hN12)).trans h7)
  replace h8 := (congrFun eMa12 a8).trans ((mm_ne _ _ (mm_apartN h8 hN12)).trans h8)
  replace h9 := (congrFun eMa12 a9).trans ((mm_ne _ _ (mm_apartN h9 hN12)).trans h9)
  replace h10 := (congrFun eMa12 a10).trans ((mm_ne _ _ (mm_apartN h10 hN12)).trans h10)
  replace h11 := (congrFun eMa12 a11).trans ((mm_ne _ _ (mm_apartN h11 hN12)).trans h11)
  have h12 := (congrFun eMa12 a12).trans (mm_self _ _ _)
  refine mm_putF (k := 12) E hnm hZ cl_Mod w_625 (by decide) rfl rfl hq (by decide) rfl rfl (Nat.le_of_ble_eq_true rfl) d_Mod_init_95 (fun H locs hZ => ?_)
  obtain ⟨Mb12, eMb12⟩ : ∃ z : mm_M, z = mm_up Ma12 q (ob 20 9 [.int 0, .int 0, .ref a2, .ref a3, .ref a4, .ref a5, .ref a6, .ref a7, .ref a8, .ref a9, .ref a10, .ref a11, .ref a12, .null, .null, .null, .int 0, .long 0, .int 0, .null, .null, .null, .null, .null, .int 0, .null]) := ⟨_, rfl⟩
  replace hZ : mm_S g s Mb12 H locs := by rw [eMb12]; exact hZ
  replace hs : ∀ t, (t < 20 ∨ 47 ≤ t) → mm_same t M0 Mb12 := fun t ht => by rw [eMb12]; exact (hs t ht).tr (mm_same.up hq (by omega) _)
  replace h2 := (congrFun eMb12 a2).trans ((mm_ne _ _ (mm_tag h2 hq (by decide))).trans h2)
  replace h3 := (congrFun eMb12 a3).trans ((mm_ne _ _ (mm_tag h3 hq (by decide))).trans h3)
  replace h4 := (congrFun eMb12 a4).trans ((mm_ne _ _ (mm_tag h4 hq (by decide))).trans h4)
  replace h5 := (congrFun eMb12 a5).trans ((mm_ne _ _ (mm_tag h5 hq (by decide))).trans h5)
  replace h6 := (congrFun eMb12 a6).trans ((mm_ne _ _ (mm_tag h6 hq (by decide))).trans h6)
  replace h7 := (congrFun eMb12 a7).trans ((mm_ne _ _ (mm_tag h7 hq (by decide))).trans h7)
  replace h8 := (congrFun eMb12 a8).trans ((mm_ne _ _ (mm_tag h8 hq (by decide))).trans h8)
  replace h9 := (congrFun eMb12 a9).trans ((mm_ne _ _ (mm_tag h9 hq (by decide))).trans h9)
  replace h10 := (congrFun eMb12 a10).trans ((mm_ne _ _ (mm_tag h10 hq (by decide))).trans h10)
  replace h11 := (congrFun eMb12 a11).trans ((mm_ne _ _ (mm_tag h11 hq (by decide))).trans h11)
  replace h12 := (congrFun eMb12 a12).trans ((mm_ne _ _ (mm_tag h12 hq (by decide))).trans h12)
  replace hq := (congrFun eMb12 q).trans (mm_self _ _ _)
  refine lv_aload_n hx hb d_Mod_init_98 rfl (lv_at hl 0 rfl) ?_
  refine lv_sipush (v := 200) hx hb d_Mod_init_99 (by decide) ?_
  refine mm_newz 34 (t0 := 2) (cA := g.2.2 2) (N := 200) E hZ rfl w_692 (by decide) (by decide) (by decide) (Nat.le_of_ble_eq_true rfl) (Nat.le_of_ble_eq_true rfl) d_Mod_init_102 (fun a13 H hB13 hN13 hZ => ?_)
  obtain ⟨Ma13, eMa13⟩ : ∃ z : mm_M, z = mm_up Mb12 a13 (ai 34 (g.2.2 2) 200 (fun _ => 0)) := ⟨_, rfl⟩
  rw [← eMa13] at hZ
  replace hs : ∀ t, (t < 20 ∨ 47 ≤ t) → mm_same t M0 Ma13 := fun t ht => by rw [eMa13]; exact (hs t ht).tr (mm_same.new hN13 _)
  replace hq := (congrFun eMa13 q).trans ((mm_ne _ _ (mm_apartN hq hN13)).trans hq)
  replace h2 := (congrFun eMa13 a2).trans ((mm_ne _ _ (mm_apartN h2 hN13)).trans h2)
  replace h3 := (congrFun eMa13 a3).trans ((mm_ne _ _ (mm_apartN h3 hN13)).trans h3)
  replace h4 := (congrFun eMa13 a4).trans ((mm_ne _ _ (mm_apartN h4 hN13)).trans h4)
  replace h5 := (congrFun eMa13 a5).trans ((mm_ne _ _ (mm_apartN h5 hN13)).trans h5)
  replace h6 := (congrFun eMa13 a6).trans ((mm_ne _ _ (mm_apartN h6 hN13)).trans h6)
  replace h7 := (congrFun eMa13 a7).trans ((mm_ne _ _ (mm_apartN h7 hN13)).trans h7)
  replace h8 := (congrFun eMa13 a8).trans ((mm_ne _ _ (mm_apartN h8 hN13)).trans h8)
  replace h9 := (congrFun eMa13 a9).trans ((mm_ne _ _ (mm_apartN h9 hN13)).trans h9)
  replace h10 := (congrFun eMa13 a10).trans ((mm_ne _ _ (mm_apartN h10 hN13)).trans h10)
  replace h11 := (congrFun eMa13 a11).trans ((mm_ne _ _ (mm_apartN h11 hN13)).trans h11)
  replace h12 := (congrFun eMa13 a12).trans ((mm_ne _ _ (mm_apartN h12 hN13)).trans h12)
  have h13 := (congrFun eMa13 a13).trans (mm_self _ _ _)
  refine mm_putF (k := 13) E hnm hZ cl_Mod w_626 (by decide) rfl rfl hq (by decide) rfl rfl (Nat.le_of_ble_eq_true rfl) d_Mod_init_104 (fun H locs hZ => ?_)
  obtain ⟨Mb13, eMb13⟩ : ∃ z : mm_M, z = mm_up Ma13 q (ob 20 9 [.int 0, .int 0, .ref a2, .ref a3, .ref a4, .ref a5, .ref a6, .ref a7, .ref a8, .ref a9, .ref a10, .ref a11, .ref a12, .ref a13, .null, .null, .int 0, .long 0, .int 0, .null, .null, .null, .null, .null, .int 0, .null]) := ⟨_, rfl⟩
  replace hZ : mm_S g s Mb13 H locs := by rw [eMb13]; exact hZ
  replace hs : ∀ t, (t < 20 ∨ 47 ≤ t) → mm_same t M0 Mb13 := fun t ht => by rw [eMb13]; exact (hs t ht).tr (mm_same.up hq (by omega) _)
  replace h2 := (congrFun eMb13 a2).trans ((mm_ne _ _ (mm_tag h2 hq (by decide))).trans h2)
  replace h3 := (congrFun eMb13 a3).trans ((mm_ne _ _ (mm_tag h3 hq (by decide))).trans h3)
  replace h4 := (congrFun eMb13 a4).trans ((mm_ne _ _ (mm_tag h4 hq (by decide))).trans h4)
  replace h5 := (congrFun eMb13 a5).trans ((mm_ne _ _ (mm_tag h5 hq (by decide))).trans h5)
  replace h6 := (congrFun eMb13 a6).trans ((mm_ne _ _ (mm_tag h6 hq (by decide))).trans h6)
  replace h7 := (congrFun eMb13 a7).trans ((mm_ne _ _ (mm_tag h7 hq (by decide))).trans h7)
  replace h8 := (congrFun eMb13 a8).trans ((mm_ne _ _ (mm_tag h8 hq (by decide))).trans h8)
  replace h9 := (congrFun eMb13 a9).trans ((mm_ne _ _ (mm_tag h9 hq (by decide))).trans h9)
  replace h10 := (congrFun eMb13 a10).trans ((mm_ne _ _ (mm_tag h10 hq (by decide))).trans h10)
  replace h11 := (congrFun eMb13 a11).trans ((mm_ne _ _ (mm_tag h11 hq (by decide))).trans h11)
  replace h12 := (congrFun eMb13 a12).trans ((mm_ne _ _ (mm_tag h12 hq (by decide))).trans h12)
  replace h13 := (congrFun eMb13 a13).trans ((mm_ne _ _ (mm_tag h13 hq (by decide))).trans h13)
  replace hq := (congrFun eMb13 q).trans (mm_self _ _ _)
  refine lv_aload_n hx hb d_Mod_init_107 rfl (lv_at hl 0 rfl) ?_
  refine lv_sipush (v := 200) hx hb d_Mod_init_108 (by decide) ?_
  refine mm_newz 35 (t0 := 2) (cA := g.2.2 2) (N := 200) E hZ rfl w_692 (by decide) (by decide) (by decide) (Nat.le_of_ble_eq_true rfl) (Nat.le_of_ble_eq_true rfl) d_Mod_init_111 (fun a14 H hB14 hN14 hZ => ?_)
  obtain ⟨Ma14, eMa14⟩ : ∃ z : mm_M, z = mm_up Mb13 a14 (ai 35 (g.2.2 2) 200 (fun _ => 0)) := ⟨_, rfl⟩
  rw [← eMa14] at hZ
  replace hs : ∀ t, (t < 20 ∨ 47 ≤ t) → mm_same t M0 Ma14 := fun t ht => by rw [eMa14]; exact (hs t ht).tr (mm_same.new hN14 _)
  replace hq := (congrFun eMa14 q).trans ((mm_ne _ _ (mm_apartN hq hN14)).trans hq)
  replace h2 := (congrFun eMa14 a2).trans ((mm_ne _ _ (mm_apartN h2 hN14)).trans h2)
  replace h3 := (congrFun eMa14 a3).trans ((mm_ne _ _ (mm_apartN h3 hN14)).trans h3)
  replace h4 := (congrFun eMa14 a4).trans ((mm_ne _ _ (mm_apartN h4 hN14)).trans h4)
  replace h5 := (congrFun eMa14 a5).trans ((mm_ne _ _ (mm_apartN h5 hN14)).trans h5)
  replace h6 := (congrFun eMa14 a6).trans ((mm_ne _ _ (mm_apartN h6 hN14)).trans h6)
  replace h7 := (congrFun eMa14 a7).trans ((mm_ne _ _ (mm_apartN h7 hN14)).trans h7)
  replace h8 := (congrFun eMa14 a8).trans ((mm_ne _ _ (mm_apartN h8 hN14)).trans h8)
  replace h9 := (congrFun eMa14 a9).trans ((mm_ne _ _ (mm_apartN h9 hN14)).trans h9)
  replace h10 := (congrFun eMa14 a10).trans ((mm_ne _ _ (mm_apartN h10 hN14)).trans h10)
  replace h11 := (congrFun eMa14 a11).trans ((mm_ne _ _ (mm_apartN h11 hN14)).trans h11)
  replace h12 := (congrFun eMa14 a12).trans ((mm_ne _ _ (mm_apartN h12 hN14)).trans h12)
  replace h13 := (congrFun eMa14 a13).trans ((mm_ne _ _ (mm_apartN h13 hN14)).trans h13)
  have h14 := (congrFun eMa14 a14).trans (mm_self _ _ _)
  refine mm_putF (k := 14) E hnm hZ cl_Mod w_627 (by decide) rfl rfl hq (by decide) rfl rfl (Nat.le_of_ble_eq_true rfl) d_Mod_init_113 (fun H locs hZ => ?_)
  obtain ⟨Mb14, eMb14⟩ : ∃ z : mm_M, z = mm_up Ma14 q (ob 20 9 [.int 0, .int 0, .ref a2, .ref a3, .ref a4, .ref a5, .ref a6, .ref a7, .ref a8, .ref a9, .ref a10, .ref a11, .ref a12, .ref a13, .ref a14, .null, .int 0, .long 0, .int 0, .null, .null, .null, .null, .null, .int 0, .null]) := ⟨_, rfl⟩
  replace hZ : mm_S g s Mb14 H locs := by rw [eMb14]; exact hZ
  replace hs : ∀ t, (t < 20 ∨ 47 ≤ t) → mm_same t M0 Mb14 := fun t ht => by rw [eMb14]; exact (hs t ht).tr (mm_same.up hq (by omega) _)
  replace h2 := (congrFun eMb14 a2).trans ((mm_ne _ _ (mm_tag h2 hq (by decide))).trans h2)
  replace h3 := (congrFun eMb14 a3).trans ((mm_ne _ _ (mm_tag h3 hq (by decide))).trans h3)
  replace h4 := (congrFun eMb14 a4).trans ((mm_ne _ _ (mm_tag h4 hq (by decide))).trans h4)
  replace h5 := (congrFun eMb14 a5).trans ((mm_ne _ _ (mm_tag h5 hq (by decide))).trans h5)
  replace h6 := (congrFun eMb14 a6).trans ((mm_ne _ _ (mm_tag h6 hq (by decide))).trans h6)
  replace h7 := (congrFun eMb14 a7).trans ((mm_ne _ _ (mm_tag h7 hq (by decide))).trans h7)
  replace h8 := (congrFun eMb14 a8).trans ((mm_ne _ _ (mm_tag h8 hq (by decide))).trans h8)
  replace h9 := (congrFun eMb14 a9).trans ((mm_ne _ _ (mm_tag h9 hq (by decide))).trans h9)
  replace h10 := (congrFun eMb14 a10).trans ((mm_ne _ _ (mm_tag h10 hq (by decide))).trans h10)
  replace h11 := (congrFun eMb14 a11).trans ((mm_ne _ _ (mm_tag h11 hq (by decide))).trans h11)
  replace h12 := (congrFun eMb14 a12).trans ((mm_ne _ _ (mm_tag h12 hq (by decide))).trans h12)
  replace h13 := (congrFun eMb14 a13).trans ((mm_ne _ _ (mm_tag h13 hq (by decide))).trans h13)
  replace h14 := (congrFun eMb14 a14).trans ((mm_ne _ _ (mm_tag h14 hq (by decide))).trans h14)
  replace hq := (congrFun eMb14 q).trans (mm_self _ _ _)
  refine lv_aload_n hx hb d_Mod_init_116 rfl (lv_at hl 0 rfl) ?_
  refine lv_sipush (v := 20001) hx hb d_Mod_init_117 (by decide) ?_
  refine mm_newz 36 (t0 := 2) (cA := g.2.2 2) (N := 20001) E hZ rfl w_692 (by decide) (by decide) (by decide) (Nat.le_of_ble_eq_true rfl) (Nat.le_of_ble_eq_true rfl) d_Mod_init_120 (fun a15 H hB15 hN15 hZ => ?_)
  obtain ⟨Ma15, eMa15⟩ : ∃ z : mm_M, z = mm_up Mb14 a15 (ai 36 (g.2.2 2) 20001 (fun _ => 0)) := ⟨_, rfl⟩
  rw [← eMa15] at hZ
  replace hs : ∀ t, (t < 20 ∨ 47 ≤ t) → mm_same t M0 Ma15 := fun t ht => by rw [eMa15]; exact (hs t ht).tr (mm_same.new hN15 _)
  replace hq := (congrFun eMa15 q).trans ((mm_ne _ _ (mm_apartN hq hN15)).trans hq)
  replace h2 := (congrFun eMa15 a2).trans ((mm_ne _ _ (mm_apartN h2 hN15)).trans h2)
  replace h3 := (congrFun eMa15 a3).trans ((mm_ne _ _ (mm_apartN h3 hN15)).trans h3)
  replace h4 := (congrFun eMa15 a4).trans ((mm_ne _ _ (mm_apartN h4 hN15)).trans h4)
  replace h5 := (congrFun eMa15 a5).trans ((mm_ne _ _ (mm_apartN h5 hN15)).trans h5)
  replace h6 := (congrFun eMa15 a6).trans ((mm_ne _ _ (mm_apartN h6 hN15)).trans h6)
  replace h7 := (congrFun eMa15 a7).trans ((mm_ne _ _ (mm_apartN h7 hN15)).trans h7)
  replace h8 := (congrFun eMa15 a8).trans ((mm_ne _ _ (mm_apartN h8 hN15)).trans h8)
  replace h9 := (congrFun eMa15 a9).trans ((mm_ne _ _ (mm_apartN h9 hN15)).trans h9)
  replace h10 := (congrFun eMa15 a10).trans ((mm_ne _ _ (mm_apartN h10 hN15)).trans h10)
  replace h11 := (congrFun eMa15 a11).trans ((mm_ne _ _ (mm_apartN h11 hN15)).trans h11)
  replace h12 := (congrFun eMa15 a12).trans ((mm_ne _ _ (mm_apartN h12 hN15)).trans h12)
  replace h13 := (congrFun eMa15 a13).trans ((mm_ne _ _ (mm_apartN h13 hN15)).trans h13)
  replace h14 := (congrFun eMa15 a14).trans ((mm_ne _ _ (mm_apartN h14 hN15)).trans h14)
  have h15 := (congrFun eMa15 a15).trans (mm_self _ _ _)
  refine mm_putF (k := 15) E hnm hZ cl_Mod w_628 (by decide) rfl rfl hq (by decide) rfl rfl (Nat.le_of_ble_eq_true rfl) d_Mod_init_122 (fun H locs hZ => ?_)
  obtain ⟨Mb15, eMb15⟩ : ∃ z : mm_M, z = mm_up Ma15 q (ob 20 9 [.int 0, .int 0, .ref a2, .ref a3, .ref a4, .ref a5, .ref a6, .ref a7, .ref a8, .ref a9, .ref a10, .ref a11, .ref a12, .ref a13, .ref a14, .ref a15, .int 0, .long 0, .int 0, .null, .null, .null, .null, .null, .int 0, .null]) := ⟨_, rfl⟩
  replace hZ : mm_S g s Mb15 H locs := by rw [eMb15]; exact hZ
  replace hs : ∀ t, (t < 20 ∨ 47 ≤ t) → mm_same t M0 Mb15 := fun t ht => by rw [eMb15]; exact (hs t ht).tr (mm_same.up hq (by omega) _)
  replace h2 := (congrFun eMb15 a2).trans ((mm_ne _ _ (mm_tag h2 hq (by decide))).trans h2)
  replace h3 := (congrFun eMb15 a3).trans ((mm_ne _ _ (mm_tag h3 hq (by decide))).trans h3)
  replace h4 := (congrFun eMb15 a4).trans ((mm_ne _ _ (mm_tag h4 hq (by decide))).trans h4)
  replace h5 := (congrFun eMb15 a5).trans ((mm_ne _ _ (mm_tag h5 hq (by decide))).trans h5)
  replace h6 := (congrFun eMb15 a6).trans ((mm_ne _ _ (mm_tag h6 hq (by decide))).trans h6)
  replace h7 := (congrFun eMb15 a7).trans ((mm_ne _ _ (mm_tag h7 hq (by decide))).trans h7)
  replace h8 := (congrFun eMb15 a8).trans ((mm_ne _ _ (mm_tag h8 hq (by decide))).trans h8)
  replace h9 := (congrFun eMb15 a9).trans ((mm_ne _ _ (mm_tag h9 hq (by decide))).trans h9)
  replace h10 := (congrFun eMb15 a10).trans ((mm_ne _ _ (mm_tag h10 hq (by decide))).trans h10)
  replace h11 := (congrFun eMb15 a11).trans ((mm_ne _ _ (mm_tag h11 hq (by decide))).trans h11)
  replace h12 := (congrFun eMb15 a12).trans ((mm_ne _ _ (mm_tag h12 hq (by decide))).trans h12)
  replace h13 := (congrFun eMb15 a13).trans ((mm_ne _ _ (mm_tag h13 hq (by decide))).trans h13)
  replace h14 := (congrFun eMb15 a14).trans ((mm_ne _ _ (mm_tag h14 hq (by decide))).trans h14)
  replace h15 := (congrFun eMb15 a15).trans ((mm_ne _ _ (mm_tag h15 hq (by decide))).trans h15)
  replace hq := (congrFun eMb15 q).trans (mm_self _ _ _)
  refine lv_aload_n hx hb d_Mod_init_125 rfl (lv_at hl 0 rfl) ?_
  refine lv_sipush (v := 2000) hx hb d_Mod_init_126 (by decide) ?_
  refine mm_newl 40 (t0 := 1) (cA := g.2.2 1) (N := 2000) E hZ rfl w_84 (by decide) (by decide) (by decide) (Nat.le_of_ble_eq_true rfl) (Nat.le_of_ble_eq_true rfl) d_Mod_init_129 (fun a19 H hB19 hN19 hZ => ?_)
  obtain ⟨Ma19, eMa19⟩ : ∃ z : mm_M, z = mm_up Mb15 a19 (al 40 (g.2.2 1) 2000 (fun _ => 0)) := ⟨_, rfl⟩
  rw [← eMa19] at hZ
  replace hs : ∀ t, (t < 20 ∨ 47 ≤ t) → mm_same t M0 Ma19 := fun t ht => by rw [eMa19]; exact (hs t ht).tr (mm_same.new hN19 _)
  replace hq := (congrFun eMa19 q).trans ((mm_ne _ _ (mm_apartN hq hN19)).trans hq)
  replace h2 := (congrFun eMa19 a2).trans ((mm_ne _ _ (mm_apartN h2 hN19)).trans h2)
  replace h3 := (congrFun eMa19 a3).trans ((mm_ne _ _ (mm_apartN h3 hN19)).trans h3)
  replace h4 := (congrFun eMa19 a4).trans ((mm_ne _ _ (mm_apartN h4 hN19)).trans h4)
  replace h5 := (congrFun eMa19 a5).trans ((mm_ne _ _ (mm_apartN h5 hN19)).trans h5)
  replace h6 := (congrFun eMa19 a6).trans ((mm_ne _ _ (mm_apartN h6 hN19)).trans h6)
  replace h7 := (congrFun eMa19 a7).trans ((mm_ne _ _ (mm_apartN h7 hN19)).trans h7)
  replace h8 := (congrFun eMa19 a8).trans ((mm_ne _ _ (mm_apartN h8 hN19)).trans h8)
  replace h9 := (congrFun eMa19 a9).trans ((mm_ne _ _ (mm_apartN h9 hN19)).trans h9)
  replace h10 := (congrFun eMa19 a10).trans ((mm_ne _ _ (mm_apartN h10 hN19)).trans h10)
  replace h11 := (congrFun eMa19 a11).trans ((mm_ne _ _ (mm_apartN h11 hN19)).trans h11)
  replace h12 := (congrFun eMa19 a12).trans ((mm_ne _ _ (mm_apartN h12 hN19)).trans h12)
  replace h13 := (congrFun eMa19 a13).trans ((mm_ne _ _ (mm_apartN h13 hN19)).trans h13)
  replace h14 := (congrFun eMa19 a14).trans ((mm_ne _ _ (mm_apartN h14 hN19)).trans h14)
  replace h15 := (congrFun eMa19 a15).trans ((mm_ne _ _ (mm_apartN h15 hN19)).trans h15)
  have h19 := (congrFun eMa19 a19).trans (mm_self _ _ _)
  refine mm_putF (k := 19) E hnm hZ cl_Mod w_632 (by decide) rfl rfl hq (by decide) rfl rfl (Nat.le_of_ble_eq_true rfl) d_Mod_init_131 (fun H locs hZ => ?_)
  obtain ⟨Mb19, eMb19⟩ : ∃ z : mm_M, z = mm_up Ma19 q (ob 20 9 [.int 0, .int 0, .ref a2, .ref a3, .ref a4, .ref a5, .ref a6, .ref a7, .ref a8, .ref a9, .ref a10, .ref a11, .ref a12, .ref a13, .ref a14, .ref a15, .int 0, .long 0, .int 0, .ref a19, .null, .null, .null, .null, .int 0, .null]) := ⟨_, rfl⟩
  replace hZ : mm_S g s Mb19 H locs := by rw [eMb19]; exact hZ
  replace hs : ∀ t, (t < 20 ∨ 47 ≤ t) → mm_same t M0 Mb19 := fun t ht => by rw [eMb19]; exact (hs t ht).tr (mm_same.up hq (by omega) _)
  replace h2 := (congrFun eMb19 a2).trans ((mm_ne _ _ (mm_tag h2 hq (by decide))).trans h2)
  replace h3 := (congrFun eMb19 a3).trans ((mm_ne _ _ (mm_tag h3 hq (by decide))).trans h3)
  replace h4 := (congrFun eMb19 a4).trans ((mm_ne _ _ (mm_tag h4 hq (by decide))).trans h4)
  replace h5 := (congrFun eMb19 a5).trans ((mm_ne _ _ (mm_tag h5 hq (by decide))).trans h5)
  replace h6 := (congrFun eMb19 a6).trans ((mm_ne _ _ (mm_tag h6 hq (by decide))).trans h6)
  replace h7 := (congrFun eMb19 a7).trans ((mm_ne _ _ (mm_tag h7 hq (by decide))).trans h7)
  replace h8 := (congrFun eMb19 a8).trans ((mm_ne _ _ (mm_tag h8 hq (by decide))).trans h8)
  replace h9 := (congrFun eMb19 a9).trans ((mm_ne _ _ (mm_tag h9 hq (by decide))).trans h9)
  replace h10 := (congrFun eMb19 a10).trans ((mm_ne _ _ (mm_tag h10 hq (by decide))).trans h10)
  replace h11 := (congrFun eMb19 a11).trans ((mm_ne _ _ (mm_tag h11 hq (by decide))).trans h11)
  replace h12 := (congrFun eMb19 a12).trans ((mm_ne _ _ (mm_tag h12 hq (by decide))).trans h12)
  replace h13 := (congrFun eMb19 a13).trans ((mm_ne _ _ (mm_tag h13 hq (by decide))).trans h13)
  replace h14 := (congrFun eMb19 a14).trans ((mm_ne _ _ (mm_tag h14 hq (by decide))).trans h14)
  replace h15 := (congrFun eMb19 a15).trans ((mm_ne _ _ (mm_tag h15 hq (by decide))).trans h15)
  replace h19 := (congrFun eMb19 a19).trans ((mm_ne _ _ (mm_tag h19 hq (by decide))).trans h19)
  replace hq := (congrFun eMb19 q).trans (mm_self _ _ _)
  refine lv_aload_n hx hb d_Mod_init_134 rfl (lv_at hl 0 rfl) ?_
  refine lv_bipush (v := 50) hx hb d_Mod_init_135 (by decide) ?_
  refine mm_newi 41 (t0 := 0) (cA := g.2.2 0) (N := 50) E hZ rfl w_110 (by decide) (by decide) (by decide) (Nat.le_of_ble_eq_true rfl) (Nat.le_of_ble_eq_true rfl) d_Mod_init_137 (fun a20 H hB20 hN20 hZ => ?_)
  obtain ⟨Ma20, eMa20⟩ : ∃ z : mm_M, z = mm_up Mb19 a20 (ai 41 (g.2.2 0) 50 (fun _ => 0)) := ⟨_, rfl⟩
  rw [← eMa20] at hZ
  replace hs : ∀ t, (t < 20 ∨ 47 ≤ t) → mm_same t M0 Ma20 := fun t ht => by rw [eMa20]; exact (hs t ht).tr (mm_same.new hN20 _)
  replace hq := (congrFun eMa20 q).trans ((mm_ne _ _ (mm_apartN hq hN20)).trans hq)
  replace h2 := (congrFun eMa20 a2).trans ((mm_ne _ _ (mm_apartN h2 hN20)).trans h2)
  replace h3 := (congrFun eMa20 a3).trans ((mm_ne _ _ (mm_apartN h3 hN20)).trans h3)
  replace h4 := (congrFun eMa20 a4).trans ((mm_ne _ _ (mm_apartN h4 hN20)).trans h4)
  replace h5 := (congrFun eMa20 a5).trans ((mm_ne _ _ (mm_apartN h5 hN20)).trans h5)
  replace h6 := (congrFun eMa20 a6).trans ((mm_ne _ _ (mm_apartN h6 hN20)).trans h6)
  replace h7 := (congrFun eMa20 a7).trans ((mm_ne _ _ (mm_apartN h7 hN20)).trans h7)
  replace h8 := (congrFun eMa20 a8).trans ((mm_ne _ _ (mm_apartN h8 hN20)).trans h8)
  replace h9 := (congrFun eMa20 a9).trans ((mm_ne _ _ (mm_apartN h9 hN20)).trans h9)
  replace h10 := (congrFun eMa20 a10).trans ((mm_ne _ _ (mm_apartN h10 hN20)).trans h10)
  replace h11 := (congrFun eMa20 a11).trans ((mm_ne _ _ (mm_apartN h11 hN20)).trans h11)
  replace h12 := (congrFun eMa20 a12).trans ((mm_ne _ _ (mm_apartN h12 hN20)).trans h12)
  replace h13 := (congrFun eMa20 a13).trans ((mm_ne _ _ (mm_apartN h13 hN20)).trans h13)
  replace h14 := (congrFun eMa20 a14).trans ((mm_ne _ _ (mm_apartN h14 hN20)).trans h14)
  replace h15 := (congrFun eMa20 a15).trans ((mm_ne _ _ (mm_apartN h15 hN20)).trans h15)
  replace h19 := (congrFun eMa20 a19).trans ((mm_ne _ _ (mm_apartN h19 hN20)).trans h19)
  have h20 := (congrFun eMa20 a20).trans (mm_self _ _ _)
  refine mm_putF (k := 20) E hnm hZ cl_Mod w_633 (by decide) rfl rfl hq (by decide) rfl rfl (Nat.le_of_ble_eq_true rfl) d_Mod_init_139 (fun H locs hZ => ?_)
  obtain ⟨Mb20, eMb20⟩ : ∃ z : mm_M, z = mm_up Ma20 q (ob 20 9 [.int 0, .int 0, .ref a2, .ref a3, .ref a4, .ref a5, .ref a6, .ref a7, .ref a8, .ref a9, .ref a10, .ref a11, .ref a12, .ref a13, .ref a14, .ref a15, .int 0, .long 0, .int 0, .ref a19, .ref a20, .null, .null, .null, .int 0, .null]) := ⟨_, rfl⟩
  replace hZ : mm_S g s Mb20 H locs := by rw [eMb20]; exact hZ
  replace hs : ∀ t, (t < 20 ∨ 47 ≤ t) → mm_same t M0 Mb20 := fun t ht => by rw [eMb20]; exact (hs t ht).tr (mm_same.up hq (by omega) _)
  replace h2 := (congrFun eMb20 a2).trans ((mm_ne _ _ (mm_tag h2 hq (by decide))).trans h2)
  replace h3 := (congrFun eMb20 a3).trans ((mm_ne _ _ (mm_tag h3 hq (by decide))).trans h3)
  replace h4 := (congrFun eMb20 a4).trans ((mm_ne _ _ (mm_tag h4 hq (by decide))).trans h4)
  replace h5 := (congrFun eMb20 a5).trans ((mm_ne _ _ (mm_tag h5 hq (by decide))).trans h5)
  replace h6 := (congrFun eMb20 a6).trans ((mm_ne _ _ (mm_tag h6 hq (by decide))).trans h6)
  replace h7 := (congrFun eMb20 a7).trans ((mm_ne _ _ (mm_tag h7 hq (by decide))).trans h7)
  replace h8 := (congrFun eMb20 a8).trans ((mm_ne _ _ (mm_tag h8 hq (by decide))).trans h8)
  replace h9 := (congrFun eMb20 a9).trans ((mm_ne _ _ (mm_tag h9 hq (by decide))).trans h9)
  replace h10 := (congrFun eMb20 a10).trans ((mm_ne _ _ (mm_tag h10 hq (by decide))).trans h10)
  replace h11 := (congrFun eMb20 a11).trans ((mm_ne _ _ (mm_tag h11 hq (by decide))).trans h11)
  replace h12 := (congrFun eMb20 a12).trans ((mm_ne _ _ (mm_tag h12 hq (by decide))).trans h12)
  replace h13 := (congrFun eMb20 a13).trans ((mm_ne _ _ (mm_tag h13 hq (by decide))).trans h13)
  replace h14 := (congrFun eMb20 a14).trans ((mm_ne _ _ (mm_tag h14 hq (by decide))).trans h14)
  replace h15 := (congrFun eMb20 a15).trans ((mm_ne _ _ (mm_tag h15 hq (by decide))).trans h15)
  replace h19 := (congrFun eMb20 a19).trans ((mm_ne _ _ (mm_tag h19 hq (by decide))).trans h19)
  replace h20 := (congrFun eMb20 a20).trans ((mm_ne _ _ (mm_tag h20 hq (by decide))).trans h20)
  replace hq := (congrFun eMb20 q).trans (mm_self _ _ _)
  refine lv_aload_n hx hb d_Mod_init_142 rfl (lv_at hl 0 rfl) ?_
  refine lv_bipush (v := 50) hx hb d_Mod_init_143 (by decide) ?_
  refine mm_newi 42 (t0 := 0) (cA := g.2.2 0) (N := 50) E hZ rfl w_110 (by decide) (by decide) (by decide) (Nat.le_of_ble_eq_true rfl) (Nat.le_of_ble_eq_true rfl) d_Mod_init_145 (fun a21 H hB21 hN21 hZ => ?_)
  obtain ⟨Ma21, eMa21⟩ : ∃ z : mm_M, z = mm_up Mb20 a21 (ai 42 (g.2.2 0) 50 (fun _ => 0)) := ⟨_, rfl⟩
  rw [← eMa21] at hZ
  replace hs : ∀ t, (t < 20 ∨ 47 ≤ t) → mm_same t M0 Ma21 := fun t ht => by rw [eMa21]; exact (hs t ht).tr (mm_same.new hN21 _)
  replace hq := (congrFun eMa21 q).trans ((mm_ne _ _ (mm_apartN hq hN21)).trans hq)
  replace h2 := (congrFun eMa21 a2).trans ((mm_ne _ _ (mm_apartN h2 hN21)).trans h2)
  replace h3 := (congrFun eMa21 a3).trans ((mm_ne _ _ (mm_apartN h3 hN21)).trans h3)
  replace h4 := (congrFun eMa21 a4).trans ((mm_ne _ _ (mm_apartN h4 hN21)).trans h4)
  replace h5 := (congrFun eMa21 a5).trans ((mm_ne _ _ (mm_apartN h5 hN21)).trans h5)
  replace h6 := (congrFun eMa21 a6).trans ((mm_ne _ _ (mm_apartN h6 hN21)).trans h6)
  replace h7 := (congrFun eMa21 a7).trans ((mm_ne _ _ (mm_apartN h7 hN21)).trans h7)
  replace h8 := (congrFun eMa21 a8).trans ((mm_ne _ _ (mm_apartN h8 hN21)).trans h8)
  replace h9 := (congrFun eMa21 a9).trans ((mm_ne _ _ (mm_apartN h9 hN21)).trans h9)
  replace h10 := (congrFun eMa21 a10).trans ((mm_ne _ _ (mm_apartN h10 hN21)).trans h10)
  replace h11 := (congrFun eMa21 a11).trans ((mm_ne _ _ (mm_apartN h11 hN21)).trans h11)
  replace h12 := (congrFun eMa21 a12).trans ((mm_ne _ _ (mm_apartN h12 hN21)).trans h12)
  replace h13 := (congrFun eMa21 a13).trans ((mm_ne _ _ (mm_apartN h13 hN21)).trans h13)
  replace h14 := (congrFun eMa21 a14).trans ((mm_ne _ _ (mm_apartN h14 hN21)).trans h14)
  replace h15 := (congrFun eMa21 a15).trans ((mm_ne _ _ (mm_apartN h15 hN21)).trans h15)
  replace h19 := (congrFun eMa21 a19).trans ((mm_ne _ _ (mm_apartN h19 hN21)).trans h19)
  replace h20 := (congrFun eMa21 a20).trans ((mm_ne _ _ (mm_apartN h20 hN21)).trans h20)
  have h21 := (congrFun eMa21 a21).trans (mm_self _ _ _)
  refine mm_putF (k := 21) E hnm hZ cl_Mod w_634 (by decide) rfl rfl hq (by decide) rfl rfl (Nat.le_of_ble_eq_true rfl) d_Mod_init_147 (fun H locs hZ => ?_)
  obtain ⟨Mb21, eMb21⟩ : ∃ z : mm_M, z = mm_up Ma21 q (ob 20 9 [.int 0, .int 0, .ref a2, .ref a3, .ref a4, .ref a5, .ref a6, .ref a7, .ref a8, .ref a9, .ref a10, .ref a11, .ref a12, .ref a13, .ref a14, .ref a15, .int 0, .long 0, .int 0, .ref a19, .ref a20, .ref a21, .null, .null, .int 0, .null]) := ⟨_, rfl⟩
  replace hZ : mm_S g s Mb21 H locs := by rw [eMb21]; exact hZ
  replace hs : ∀ t, (t < 20 ∨ 47 ≤ t) → mm_same t M0 Mb21 := fun t ht => by rw [eMb21]; exact (hs t ht).tr (mm_same.up hq (by omega) _)
  replace h2 := (congrFun eMb21 a2).trans ((mm_ne _ _ (mm_tag h2 hq (by decide))).trans h2)
  replace h3 := (congrFun eMb21 a3).trans ((mm_ne _ _ (mm_tag h3 hq (by decide))).trans h3)
  replace h4 := (congrFun eMb21 a4).trans ((mm_ne _ _ (mm_tag h4 hq (by decide))).trans h4)
  replace h5 := (congrFun eMb21 a5).trans ((mm_ne _ _ (mm_tag h5 hq (by decide))).trans h5)
  replace h6 := (congrFun eMb21 a6).trans ((mm_ne _ _ (mm_tag h6 hq (by decide))).trans h6)
  replace h7 := (congrFun eMb21 a7).trans ((mm_ne _ _ (mm_tag h7 hq (by decide))).trans h7)
  replace h8 := (congrFun eMb21 a8).trans ((mm_ne _ _ (mm_tag h8 hq (by decide))).trans h8)
  replace h9 := (congrFun eMb21 a9).trans ((mm_ne _ _ (mm_tag h9 hq (by decide))).trans h9)
  replace h10 := (congrFun eMb21 a10).trans ((mm_ne _ _ (mm_tag h10 hq (by decide))).trans h10)
  replace h11 := (congrFun eMb21 a11).trans ((mm_ne _ _ (mm_tag h11 hq (by decide))).trans h11)
  replace h12 := (congrFun eMb21 a12).trans ((mm_ne _ _ (mm_tag h12 hq (by decide))).trans h12)
  replace h13 := (congrFun eMb21 a13).trans ((mm_ne _ _ (mm_tag h13 hq (by decide))).trans h13)
  replace h14 := (congrFun eMb21 a14).trans ((mm_ne _ _ (mm_tag h14 hq (by decide))).trans h14)
  replace h15 := (congrFun eMb21 a15).trans ((mm_ne _ _ (mm_tag h15 hq (by decide))).trans h15)
  replace h19 := (congrFun eMb21 a19).trans ((mm_ne _ _ (mm_tag h19 hq (by decide))).trans h19)
  replace h20 := (congrFun eMb21 a20).trans ((mm_ne _ _ (mm_tag h20 hq (by decide))).trans h20)
  replace h21 := (congrFun eMb21 a21).trans ((mm_ne _ _ (mm_tag h21 hq (by decide))).trans h21)
  replace hq := (congrFun eMb21 q).trans (mm_self _ _ _)
  refine lv_aload_n hx hb d_Mod_init_150 rfl (lv_at hl 0 rfl) ?_
  refine lv_iconst (v := 5) hx hb d_Mod_init_151 (by decide) ?_
  refine mm_newi 43 (t0 := 0) (cA := g.2.2 0) (N := 5) E hZ rfl w_110 (by decide) (by decide) (by decide) (Nat.le_of_ble_eq_true rfl) (Nat.le_of_ble_eq_true rfl) d_Mod_init_152 (fun a22 H hB22 hN22 hZ => ?_)
  obtain ⟨Ma22, eMa22⟩ : ∃ z : mm_M, z = mm_up Mb21 a22 (ai 43 (g.2.2 0) 5 (fun _ => 0)) := ⟨_, rfl⟩
  rw [← eMa22] at hZ
  replace hs : ∀ t, (t < 20 ∨ 47 ≤ t) → mm_same t M0 Ma22 := fun t ht => by rw [eMa22]; exact (hs t ht).tr (mm_same.new hN22 _)
  replace hq := (congrFun eMa22 q).trans ((mm_ne _ _ (mm_apartN hq hN22)).trans hq)
  replace h2 := (congrFun eMa22 a2).trans ((mm_ne _ _ (mm_apartN h2 hN22)).trans h2)
  replace h3 := (congrFun eMa22 a3).trans ((mm_ne _ _ (mm_apartN h3 hN22)).trans h3)
  replace h4 := (congrFun eMa22 a4).trans ((mm_ne _ _ (mm_apartN h4 hN22)).trans h4)
  replace h5 := (congrFun eMa22 a5).trans ((mm_ne _ _ (mm_apartN h5 hN22)).trans h5)
  replace h6 := (congrFun eMa22 a6).trans ((mm_ne _ _ (mm_apartN h6 hN22)).trans h6)
  replace h7 := (congrFun eMa22 a7).trans ((mm_ne _ _ (mm_apartN h7 hN22)).trans h7)
  replace h8 := (congrFun eMa22 a8).trans ((mm_ne _ _ (mm_apartN h8 hN22)).trans h8)
  replace h9 := (congrFun eMa22 a9).trans ((mm_ne _ _ (mm_apartN h9 hN22)).trans h9)
  replace h10 := (congrFun eMa22 a10).trans ((mm_ne _ _ (mm_apartN h10 hN22)).trans h10)
  replace h11 := (congrFun eMa22 a11).trans ((mm_ne _ _ (mm_apartN h11 hN22)).trans h11)
  replace h12 := (congrFun eMa22 a12).trans ((mm_ne _ _ (mm_apartN h12 hN22)).trans h12)
  replace h13 := (congrFun eMa22 a13).trans ((mm_ne _ _ (mm_apartN h13 hN22)).trans h13)
  replace h14 := (congrFun eMa22 a14).trans ((mm_ne _ _ (mm_apartN h14 hN22)).trans h14)
  replace h15 := (congrFun eMa22 a15).trans ((mm_ne _ _ (mm_apartN h15 hN22)).trans h15)
  replace h19 := (congrFun eMa22 a19).trans ((mm_ne _ _ (mm_apartN h19 hN22)).trans h19)
  replace h20 := (congrFun eMa22 a20).trans ((mm_ne _ _ (mm_apartN h20 hN22)).trans h20)
  replace h21 := (congrFun eMa22 a21).trans ((mm_ne _ _ (mm_apartN h21 hN22)).trans h21)
  have h22 := (congrFun eMa22 a22).trans (mm_self _ _ _)
  refine mm_putF (k := 22) E hnm hZ cl_Mod w_635 (by decide) rfl rfl hq (by decide) rfl rfl (Nat.le_of_ble_eq_true rfl) d_Mod_init_154 (fun H locs hZ => ?_)
  obtain ⟨Mb22, eMb22⟩ : ∃ z : mm_M, z = mm_up Ma22 q (ob 20 9 [.int 0, .int 0, .ref a2, .ref a3, .ref a4, .ref a5, .ref a6, .ref a7, .ref a8, .ref a9, .ref a10, .ref a11, .ref a12, .ref a13, .ref a14, .ref a15, .int 0, .long 0, .int 0, .ref a19, .ref a20, .ref a21, .ref a22, .null, .int 0, .null]) := ⟨_, rfl⟩
  replace hZ : mm_S g s Mb22 H locs := by rw [eMb22]; exact hZ
  replace hs : ∀ t, (t < 20 ∨ 47 ≤ t) → mm_same t M0 Mb22 := fun t ht => by rw [eMb22]; exact (hs t ht).tr (mm_same.up hq (by omega) _)
  replace h2 := (congrFun eMb22 a2).trans ((mm_ne _ _ (mm_tag h2 hq (by decide))).trans h2)
  replace h3 := (congrFun eMb22 a3).trans ((mm_ne _ _ (mm_tag h3 hq (by decide))).trans h3)
  replace h4 := (congrFun eMb22 a4).trans ((mm_ne _ _ (mm_tag h4 hq (by decide))).trans h4)
  replace h5 := (congrFun eMb22 a5).trans ((mm_ne _ _ (mm_tag h5 hq (by decide))).trans h5)
  replace h6 := (congrFun eMb22 a6).trans ((mm_ne _ _ (mm_tag h6 hq (by decide))).trans h6)
  replace h7 := (congrFun eMb22 a7).trans ((mm_ne _ _ (mm_tag h7 hq (by decide))).trans h7)
  replace h8 := (congrFun eMb22 a8).trans ((mm_ne _ _ (mm_tag h8 hq (by decide))).trans h8)
  replace h9 := (congrFun eMb22 a9).trans ((mm_ne _ _ (mm_tag h9 hq (by decide))).trans h9)
  replace h10 := (congrFun eMb22 a10).trans ((mm_ne _ _ (mm_tag h10 hq (by decide))).trans h10)
  replace h11 := (congrFun eMb22 a11).trans ((mm_ne _ _ (mm_tag h11 hq (by decide))).trans h11)
  replace h12 := (congrFun eMb22 a12).trans ((mm_ne _ _ (mm_tag h12 hq (by decide))).trans h12)
  replace h13 := (congrFun eMb22 a13).trans ((mm_ne _ _ (mm_tag h13 hq (by decide))).trans h13)
  replace h14 := (congrFun eMb22 a14).trans ((mm_ne _ _ (mm_tag h14 hq (by decide))).trans h14)
  replace h15 := (congrFun eMb22 a15).trans ((mm_ne _ _ (mm_tag h15 hq (by decide))).trans h15)
  replace h19 := (congrFun eMb22 a19).trans ((mm_ne _ _ (mm_tag h19 hq (by decide))).trans h19)
  replace h20 := (congrFun eMb22 a20).trans ((mm_ne _ _ (mm_tag h20 hq (by decide))).trans h20)
  replace h21 := (congrFun eMb22 a21).trans ((mm_ne _ _ (mm_tag h21 hq (by decide))).trans h21)
  replace h22 := (congrFun eMb22 a22).trans ((mm_ne _ _ (mm_tag h22 hq (by decide))).trans h22)
  replace hq := (congrFun eMb22 q).trans (mm_self _ _ _)
  refine lv_aload_n hx hb d_Mod_init_157 rfl (lv_at hl 0 rfl) ?_
  refine lv_sipush (v := 21000) hx hb d_Mod_init_158 (by decide) ?_
  refine mm_newi 44 (t0 := 0) (cA := g.2.2 0) (N := 21000) E hZ rfl w_110 (by decide) (by decide) (by decide) (Nat.le_of_ble_eq_true rfl) (Nat.le_of_ble_eq_true rfl) d_Mod_init_161 (fun a23 H hB23 hN23 hZ => ?_)
  obtain ⟨Ma23, eMa23⟩ : ∃ z : mm_M, z = mm_up Mb22 a23 (ai 44 (g.2.2 0) 21000 (fun _ => 0)) := ⟨_, rfl⟩
  rw [← eMa23] at hZ
  replace hs : ∀ t, (t < 20 ∨ 47 ≤ t) → mm_same t M0 Ma23 := fun t ht => by rw [eMa23]; exact (hs t ht).tr (mm_same.new hN23 _)
  replace hq := (congrFun eMa23 q).trans ((mm_ne _ _ (mm_apartN hq hN23)).trans hq)
  replace h2 := (congrFun eMa23 a2).trans ((mm_ne _ _ (mm_apartN h2 hN23)).trans h2)
  replace h3 := (congrFun eMa23 a3).trans ((mm_ne _ _ (mm_apartN h3 hN23)).trans h3)
  replace h4 := (congrFun eMa23 a4).trans ((mm_ne _ _ (mm_apartN h4 hN23)).trans h4)
  replace h5 := (congrFun eMa23 a5).trans ((mm_ne _ _ (mm_apartN h5 hN23)).trans h5)
  replace h6 := (congrFun eMa23 a6).trans ((mm_ne _ _ (mm_apartN h6 hN23)).trans h6)
  replace h7 := (congrFun eMa23 a7).trans ((mm_ne _ _ (mm_apartN h7 hN23)).trans h7)
  replace h8 := (congrFun eMa23 a8).trans ((mm_ne _ _ (mm_apartN h8 hN23)).trans h8)
  replace h9 := (congrFun eMa23 a9).trans ((mm_ne _ _ (mm_apartN h9 hN23)).trans h9)
  replace h10 := (congrFun eMa23 a10).trans ((mm_ne _ _ (mm_apartN h10 hN23)).trans h10)
  replace h11 := (congrFun eMa23 a11).trans ((mm_ne _ _ (mm_apartN h11 hN23)).trans h11)
  replace h12 := (congrFun eMa23 a12).trans ((mm_ne _ _ (mm_apartN h12 hN23)).trans h12)
  replace h13 := (congrFun eMa23 a13).trans ((mm_ne _ _ (mm_apartN h13 hN23)).trans h13)
  replace h14 := (congrFun eMa23 a14).trans ((mm_ne _ _ (mm_apartN h14 hN23)).trans h14)
  replace h15 := (congrFun eMa23 a15).trans ((mm_ne _ _ (mm_apartN h15 hN23)).trans h15)
  replace h19 := (congrFun eMa23 a19).trans ((mm_ne _ _ (mm_apartN h19 hN23)).trans h19)
  replace h20 := (congrFun eMa23 a20).trans ((mm_ne _ _ (mm_apartN h20 hN23)).trans h20)
  replace h21 := (congrFun eMa23 a21).trans ((mm_ne _ _ (mm_apartN h21 hN23)).trans h21)
  replace h22 := (congrFun eMa23 a22).trans ((mm_ne _ _ (mm_apartN h22 hN23)).trans h22)
  have h23 := (congrFun eMa23 a23).trans (mm_self _ _ _)
  refine mm_putF (k := 23) E hnm hZ cl_Mod w_636 (by decide) rfl rfl hq (by decide) rfl rfl (Nat.le_of_ble_eq_true rfl) d_Mod_init_163 (fun H locs hZ => ?_)
  obtain ⟨Mb23, eMb23⟩ : ∃ z : mm_M, z = mm_up Ma23 q (ob 20 9 [.int 0, .int 0, .ref a2, .ref a3, .ref a4, .ref a5, .ref a6, .ref a7, .ref a8, .ref a9, .ref a10, .ref a11, .ref a12, .ref a13, .ref a14, .ref a15, .int 0, .long 0, .int 0, .ref a19, .ref a20, .ref a21, .ref a22, .ref a23, .int 0, .null]) := ⟨_, rfl⟩
  replace hZ : mm_S g s Mb23 H locs := by rw [eMb23]; exact hZ
  replace hs : ∀ t, (t < 20 ∨ 47 ≤ t) → mm_same t M0 Mb23 := fun t ht => by rw [eMb23]; exact (hs t ht).tr (mm_same.up hq (by omega) _)
  replace h2 := (congrFun eMb23 a2).trans ((mm_ne _ _ (mm_tag h2 hq (by decide))).trans h2)
  replace h3 := (congrFun eMb23 a3).trans ((mm_ne _ _ (mm_tag h3 hq (by decide))).trans h3)
  replace h4 := (congrFun eMb23 a4).trans ((mm_ne _ _ (mm_tag h4 hq (by decide))).trans h4)
  replace h5 := (congrFun eMb23 a5).trans ((mm_ne _ _ (mm_tag h5 hq (by decide))).trans h5)
  replace h6 := (congrFun eMb23 a6).trans ((mm_ne _ _ (mm_tag h6 hq (by decide))).trans h6)
  replace h7 := (congrFun eMb23 a7).trans ((mm_ne _ _ (mm_tag h7 hq (by decide))).trans h7)
  replace h8 := (congrFun eMb23 a8).trans ((mm_ne _ _ (mm_tag h8 hq (by decide))).trans h8)
  replace h9 := (congrFun eMb23 a9).trans ((mm_ne _ _ (mm_tag h9 hq (by decide))).trans h9)
  replace h10 := (congrFun eMb23 a10).trans ((mm_ne _ _ (mm_tag h10 hq (by decide))).trans h10)
  replace h11 := (congrFun eMb23 a11).trans ((mm_ne _ _ (mm_tag h11 hq (by decide))).trans h11)
  replace h12 := (congrFun eMb23 a12).trans ((mm_ne _ _ (mm_tag h12 hq (by decide))).trans h12)
  replace h13 := (congrFun eMb23 a13).trans ((mm_ne _ _ (mm_tag h13 hq (by decide))).trans h13)
  replace h14 := (congrFun eMb23 a14).trans ((mm_ne _ _ (mm_tag h14 hq (by decide))).trans h14)
  replace h15 := (congrFun eMb23 a15).trans ((mm_ne _ _ (mm_tag h15 hq (by decide))).trans h15)
  replace h19 := (congrFun eMb23 a19).trans ((mm_ne _ _ (mm_tag h19 hq (by decide))).trans h19)
  replace h20 := (congrFun eMb23 a20).trans ((mm_ne _ _ (mm_tag h20 hq (by decide))).trans h20)
  replace h21 := (congrFun eMb23 a21).trans ((mm_ne _ _ (mm_tag h21 hq (by decide))).trans h21)
  replace h22 := (congrFun eMb23 a22).trans ((mm_ne _ _ (mm_tag h22 hq (by decide))).trans h22)
  replace h23 := (congrFun eMb23 a23).trans ((mm_ne _ _ (mm_tag h23 hq (by decide))).trans h23)
  replace hq := (congrFun eMb23 q).trans (mm_self _ _ _)
  refine lv_aload_n hx hb d_Mod_init_166 rfl (lv_at hl 0 rfl) ?_
  refine lv_bipush (v := 40) hx hb d_Mod_init_167 (by decide) ?_
  refine mm_newi 46 (t0 := 0) (cA := g.2.2 0) (N := 40) E hZ rfl w_110 (by decide) (by decide) (by decide) (Nat.le_of_ble_eq_true rfl) (Nat.le_of_ble_eq_true rfl) d_Mod_init_169 (fun a25 H hB25 hN25 hZ => ?_)
  obtain ⟨Ma25, eMa25⟩ : ∃ z : mm_M, z = mm_up Mb23 a25 (ai 46 (g.2.2 0) 40 (fun _ => 0)) := ⟨_, rfl⟩
  rw [← eMa25] at hZ
  replace hs : ∀ t, (t < 20 ∨ 47 ≤ t) → mm_same t M0 Ma25 := fun t ht => by rw [eMa25]; exact (hs t ht).tr (mm_same.new hN25 _)
  replace hq := (congrFun eMa25 q).trans ((mm_ne _ _ (mm_apartN hq hN25)).trans hq)
  replace h2 := (congrFun eMa25 a2).trans ((mm_ne _ _ (mm_apartN h2 hN25)).trans h2)
  replace h3 := (congrFun eMa25 a3).trans ((mm_ne _ _ (mm_apartN h3 hN25)).trans h3)
  replace h4 := (congrFun eMa25 a4).trans ((mm_ne _ _ (mm_apartN h4 hN25)).trans h4)
  replace h5 := (congrFun eMa25 a5).trans ((mm_ne _ _ (mm_apartN h5 hN25)).trans h5)
  replace h6 := (congrFun eMa25 a6).trans ((mm_ne _ _ (mm_apartN h6 hN25)).trans h6)
  replace h7 := (congrFun eMa25 a7).trans ((mm_ne _ _ (mm_apartN h7 hN25)).trans h7)
  replace h8 := (congrFun eMa25 a8).trans ((mm_ne _ _ (mm_apartN h8 hN25)).trans h8)
  replace h9 := (congrFun eMa25 a9).trans ((mm_ne _ _ (mm_apartN h9 hN25)).trans h9)
  replace h10 := (congrFun eMa25 a10).trans ((mm_ne _ _ (mm_apartN h10 hN25)).trans h10)
  replace h11 := (congrFun eMa25 a11).trans ((mm_ne _ _ (mm_apartN h11 hN25)).trans h11)
  replace h12 := (congrFun eMa25 a12).trans ((mm_ne _ _ (mm_apartN h12 hN25)).trans h12)
  replace h13 := (congrFun eMa25 a13).trans ((mm_ne _ _ (mm_apartN h13 hN25)).trans h13)
  replace h14 := (congrFun eMa25 a14).trans ((mm_ne _ _ (mm_apartN h14 hN25)).trans h14)
  replace h15 := (congrFun eMa25 a15).trans ((mm_ne _ _ (mm_apartN h15 hN25)).trans h15)
  replace h19 := (congrFun eMa25 a19).trans ((mm_ne _ _ (mm_apartN h19 hN25)).trans h19)
  replace h20 := (congrFun eMa25 a20).trans ((mm_ne _ _ (mm_apartN h20 hN25)).trans h20)
  replace h21 := (congrFun eMa25 a21).trans ((mm_ne _ _ (mm_apartN h21 hN25)).trans h21)
  replace h22 := (congrFun eMa25 a22).trans ((mm_ne _ _ (mm_apartN h22 hN25)).trans h22)
  replace h23 := (congrFun eMa25 a23).trans ((mm_ne _ _ (mm_apartN h23 hN25)).trans h23)
  have h25 := (congrFun eMa25 a25).trans (mm_self _ _ _)
  refine mm_putF (k := 25) E hnm hZ cl_Mod w_638 (by decide) rfl rfl hq (by decide) rfl rfl (Nat.le_of_ble_eq_true rfl) d_Mod_init_171 (fun H locs hZ => ?_)
  obtain ⟨Mb25, eMb25⟩ : ∃ z : mm_M, z = mm_up Ma25 q (ob 20 9 [.int 0, .int 0, .ref a2, .ref a3, .ref a4, .ref a5, .ref a6, .ref a7, .ref a8, .ref a9, .ref a10, .ref a11, .ref a12, .ref a13, .ref a14, .ref a15, .int 0, .long 0, .int 0, .ref a19, .ref a20, .ref a21, .ref a22, .ref a23, .int 0, .ref a25]) := ⟨_, rfl⟩
  replace hZ : mm_S g s Mb25 H locs := by rw [eMb25]; exact hZ
  replace hs : ∀ t, (t < 20 ∨ 47 ≤ t) → mm_same t M0 Mb25 := fun t ht => by rw [eMb25]; exact (hs t ht).tr (mm_same.up hq (by omega) _)
  replace h2 := (congrFun eMb25 a2).trans ((mm_ne _ _ (mm_tag h2 hq (by decide))).trans h2)
  replace h3 := (congrFun eMb25 a3).trans ((mm_ne _ _ (mm_tag h3 hq (by decide))).trans h3)
  replace h4 := (congrFun eMb25 a4).trans ((mm_ne _ _ (mm_tag h4 hq (by decide))).trans h4)
  replace h5 := (congrFun eMb25 a5).trans ((mm_ne _ _ (mm_tag h5 hq (by decide))).trans h5)
  replace h6 := (congrFun eMb25 a6).trans ((mm_ne _ _ (mm_tag h6 hq (by decide))).trans h6)
  replace h7 := (congrFun eMb25 a7).trans ((mm_ne _ _ (mm_tag h7 hq (by decide))).trans h7)
  replace h8 := (congrFun eMb25 a8).trans ((mm_ne _ _ (mm_tag h8 hq (by decide))).trans h8)
  replace h9 := (congrFun eMb25 a9).trans ((mm_ne _ _ (mm_tag h9 hq (by decide))).trans h9)
  replace h10 := (congrFun eMb25 a10).trans ((mm_ne _ _ (mm_tag h10 hq (by decide))).trans h10)
  replace h11 := (congrFun eMb25 a11).trans ((mm_ne _ _ (mm_tag h11 hq (by decide))).trans h11)
  replace h12 := (congrFun eMb25 a12).trans ((mm_ne _ _ (mm_tag h12 hq (by decide))).trans h12)
  replace h13 := (congrFun eMb25 a13).trans ((mm_ne _ _ (mm_tag h13 hq (by decide))).trans h13)
  replace h14 := (congrFun eMb25 a14).trans ((mm_ne _ _ (mm_tag h14 hq (by decide))).trans h14)
  replace h15 := (congrFun eMb25 a15).trans ((mm_ne _ _ (mm_tag h15 hq (by decide))).trans h15)
  replace h19 := (congrFun eMb25 a19).trans ((mm_ne _ _ (mm_tag h19 hq (by decide))).trans h19)
  replace h20 := (congrFun eMb25 a20).trans ((mm_ne _ _ (mm_tag h20 hq (by decide))).trans h20)
  replace h21 := (congrFun eMb25 a21).trans ((mm_ne _ _ (mm_tag h21 hq (by decide))).trans h21)
  replace h22 := (congrFun eMb25 a22).trans ((mm_ne _ _ (mm_tag h22 hq (by decide))).trans h22)
  replace h23 := (congrFun eMb25 a23).trans ((mm_ne _ _ (mm_tag h23 hq (by decide))).trans h23)
  replace h25 := (congrFun eMb25 a25).trans ((mm_ne _ _ (mm_tag h25 hq (by decide))).trans h25)
  replace hq := (congrFun eMb25 q).trans (mm_self _ _ _)
  have hR : Rs g Mb25 q (fun k => match k with | 2 => a2 | 3 => a3 | 4 => a4 | 5 => a5 | 6 => a6 | 7 => a7 | 8 => a8 | 9 => a9 | 10 => a10 | 11 => a11 | 12 => a12 | 13 => a13 | 14 => a14 | 15 => a15 | 19 => a19 | 20 => a20 | 21 => a21 | 22 => a22 | 23 => a23 | 25 => a25 | _ => q) (fun _ _ => 0) (fun _ _ => 0) (fun _ => 0) 0 := ⟨hq, fun k hk => by
    rcases rI_cases hk with rfl | rfl | rfl | rfl | rfl | rfl | rfl | rfl | rfl | rfl | rfl | rfl | rfl | rfl | rfl
    · exact h2
    · exact h3
    · exact h4
    · exact h6
    · exact h7
    · exact h10
    · exact h11
    · exact h13
    · exact h14
    · exact h15
    · exact h20
    · exact h21
    · exact h22
    · exact h23
    · exact h25, fun k hk => by
    rcases rL_cases hk with rfl | rfl | rfl | rfl | rfl
    · exact h5
    · exact h8
    · exact h9
    · exact h12
    · exact h19⟩
  have hR : Rq g M0 Mb25 q (fun k => match k with | 2 => a2 | 3 => a3 | 4 => a4 | 5 => a5 | 6 => a6 | 7 => a7 | 8 => a8 | 9 => a9 | 10 => a10 | 11 => a11 | 12 => a12 | 13 => a13 | 14 => a14 | 15 => a15 | 19 => a19 | 20 => a20 | 21 => a21 | 22 => a22 | 23 => a23 | 25 => a25 | _ => q) (fun _ _ => 0) (fun _ _ => 0) (fun _ => 0) 0 := ⟨hR, hs⟩
  generalize (fun k => match k with | 2 => a2 | 3 => a3 | 4 => a4 | 5 => a5 | 6 => a6 | 7 => a7 | 8 => a8 | 9 => a9 | 10 => a10 | 11 => a11 | 12 => a12 | 13 => a13 | 14 => a14 | 15 => a15 | 19 => a19 | 20 => a20 | 21 => a21 | 22 => a22 | 23 => a23 | 25 => a25 | _ => q) = ad at hR
  generalize Mb25 = M at hZ hR
  refine lv_iconst (v := 0) hx hb d_Mod_init_174 (by decide) ?_
  refine lv_istore_n (lv' := [(1, .int 0), (0, .ref q)]) hx hb d_Mod_init_175 rfl hl (by decide) rfl (fun ls hl => ?_)
  have loop : ∀ (n : Nat) (Ix : Nat → Nat → Int32) (i : Nat) (M : mm_M) (H : Heap) (locs : List Loc) (ls : Array Slot), mm_S g s M H locs → Rq g M0 M q ad Ix (fun _ _ => 0) (fun _ => 0) 0 → Ix = rz_I i → i ≤ 200 → 201 ≤ i + n → lv_has ls 2 [(0, .ref q), (1, .int (nI i))] → W pG l eV (rk 1 20 20 44951) s m args below meth cdx H locs 20 44951 Q (F0 m 176 ls []) := by
    intro n
    induction n with
    | zero => exact fun Ix i M H locs ls _ hR hIx hi1 hfu _ => absurd hfu (by omega)
    | succ n ih =>
      intro Ix i M H locs ls hZ hR hIx hi1 hfu hl
      refine lv_iload_n hx hb d_Mod_init_176 rfl (lv_at hl 1 rfl) ?_
      refine lv_sipush (v := 200) hx hb d_Mod_init_177 (by decide) ?_
      refine lv_icmp_ge (tgt := 196) hx hb d_Mod_init_180 (by decide) (fun c180 => ?_) (fun c180 => ?_)
      · have hi2 : i = 200 := by
          rcases Nat.lt_or_ge i 200 with z | z
          · exact absurd (show nI 200 ≤ nI i from c180) (nI_ge z (by decide))
          · omega
        subst hi2
        exact mm_vret E hr hlk eQ hZ d_Mod_init_196 ⟨rfl, ad, hIx ▸ hR⟩
      · have hi2 : i < 200 := by
          rcases Nat.lt_or_ge i 200 with z | z
          · exact z
          · exact absurd (show nI 200 ≤ nI i from nI_le z (by omega)) c180
        refine lv_aload_n hx hb d_Mod_init_183 rfl (lv_at hl 0 rfl) ?_
        refine mm_get (v := .ref (ad 7)) E hZ cl_Mod fl_Mod_27 (by decide) hR.1.1 rfl d_Mod_init_184 ?_
        refine lv_iload_n hx hb d_Mod_init_187 rfl (lv_at hl 1 rfl) ?_
        refine lv_iconst (v := (-1)) hx hb d_Mod_init_188 (by decide) ?_
        refine rr_iast 7 rfl rfl E hZ hR rfl (show i < 200 by omega) d_Mod_init_189 (fun M H locs hZ hR => ?_)
        refine lv_iinc (v := (nI i) + 1) (lv' := [(1, .int ((nI i) + 1)), (0, .ref q)]) hx hb d_Mod_init_190 hl (k := 1) rfl rfl (by decide) rfl (fun ls hl => ?_)
        refine lv_goto (tgt := 176) hx hb d_Mod_init_193 (by decide) ?_
        rw [nI_1] at hl
        exact ih _ (i + 1) M H locs ls hZ hR (by rw [hIx]; exact rz_step i) (by omega) (by omega) (lv_sub hl [1, 0] rfl)
  exact loop 201 _ 0 M H locs ls hZ hR rz_0 (Nat.zero_le _) (by omega) (lv_sub hl [1, 0] rfl)
