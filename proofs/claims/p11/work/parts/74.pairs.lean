/-! BOTH SIDES TOGETHER -/
def St (g : mm_G) (M : mm_M) (x q o3 m : Nat) : Prop := ∃ X Y, XS g M x m X ∧ RS g M q m Y ∧ Cr X Y ∧ ∃ fo, M o3 = some (al 50 (g.2.2 1) 1 fo)
theorem St.x {g : mm_G} {M : mm_M} {x q o3 m : Nat} (h : St g M x q o3 m) : ∃ fs, M x = some (ob 1 0 fs) := by
  obtain ⟨X, Y, h1, h2, h3, h4⟩ := h
  exact h1.ob
def Pr {α : Type} (g : mm_G) (M : mm_M) (x q o3 m : Nat) (A : Nat → Nat → (α → mm_M → Prop) → Prop) (B : mm_M → (α → mm_M → Prop) → Prop) (e : α → α → Prop) : Prop := ∃ kc ks P, (kc ≤ 420 ∧ ks ≤ 3700) ∧ A kc ks P ∧ ∀ r1 M1, P r1 M1 → (∃ fs, M1 q = some (ob 20 9 fs)) ∧ ∃ P2, B M1 P2 ∧ ∀ r2 M2, P2 r2 M2 → St g M2 x q o3 (m + 1) ∧ e r1 r2
theorem pair {α : Type} {g : mm_G} {M : mm_M} {x q o3 m : Nat} (h : St g M x q o3 m) {A : Nat → Nat → (α → mm_M → Prop) → Prop} {B : mm_M → (α → mm_M → Prop) → Prop} {oX : XV → α → XV → Prop} {oM : RV → α → RV → Prop} {e : α → α → Prop}
    (hA : ∀ X, XS g M x m X → XT g M x m X A oX) (hB : ∀ M1 Y, RS g M1 q m Y → RT g M1 q m Y (B M1) oM) (hC : ∀ X Y X' Y' r1 r2, X.ci m → Y.ri m → Cr X Y → oX X r1 X' → oM Y r2 Y' → Cr X' Y' ∧ e r1 r2) : Pr g M x q o3 m A B e := by
  obtain ⟨X, Y, h1, h2, h3, fo, h4⟩ := h
  obtain ⟨kc, ks, P, hk, hP, hp⟩ := hA X h1
  refine ⟨kc, ks, P, hk, hP, fun r1 M1 hr1 => ?_⟩
  obtain ⟨X', ho1, hX', hs1⟩ := hp r1 M1 hr1
  have h2' := h2.kept (fun u hu _ => hs1 u (by omega))
  obtain ⟨P2, hP2, hp2⟩ := hB M1 Y h2'
  refine ⟨h2'.ob, P2, hP2, fun r2 M2 hr2 => ?_⟩
  obtain ⟨Y', ho2, hY', hs2⟩ := hp2 r2 M2 hr2
  have hk := hC X Y X' Y' r1 r2 h1.2.2 h2.2 h3 ho1 ho2
  exact ⟨⟨X', Y', hX'.kept (fun u _ hu => hs2 u (by omega)), hY', hk.1, fo, hs2 50 (by omega) _ _ (hs1 50 (by omega) _ _ h4)⟩, hk.2⟩
section PAIRS
variable {l : Launch} {g : mm_G} {M : mm_M} {x q o3 m : Nat}
theorem p_rule (h : St g M x q o3 m) (st pl sv : Int32) (wi : Int64) {fl : Int32} (hfl : bo fl) : Pr g M x q o3 m (fun kc ks P => Ci l g y_X_rule b_X_rule 7 .int (rk 8 198 kc ks) M [.ref x, .int st, .int pl, .int sv, .long wi, .int fl] P) (fun M1 P => Ci l g y_Mod_rule b_Mod_rule 7 .int (rk 1 25 0 0) M1 [.ref q, .int st, .int pl, .int sv, .long wi, .int fl] P) e_rule :=
  pair h (fun X hX => x_rule hX st pl sv wi hfl) (fun M1 Y hY => r_rule hY st pl sv wi hfl) (fun X Y X' Y' r1 r2 hC hR hc h1 h2 => k_rule hC hR hc h1 h2)
theorem p_event (h : St g M x q o3 m) (hm : m < 512) (i st pl sv : Int32) (t : Int64) : Pr g M x q o3 m (fun kc ks P => Ci l g y_X_event b_X_event 8 .int (rk 9 217 kc ks) M [.ref x, .int i, .int st, .int pl, .int sv, .long t] P) (fun M1 P => Ci l g y_Mod_event b_Mod_event 8 .int (rk 2 48 0 0) M1 [.ref q, .int i, .int st, .int pl, .int sv, .long t] P) e_event :=
  pair h (fun X hX => x_event hX hm i st pl sv t) (fun M1 Y hY => r_event hY hm i st pl sv t) (fun X Y X' Y' r1 r2 hC hR hc h1 h2 => k_event hm hC hR hc h1 h2)
theorem p_tick (h : St g M x q o3 m) (hm : m < 512) (t : Int64) : Pr g M x q o3 m (fun kc ks P => Ci l g y_X_tick b_X_tick 5 .int (rk 9 216 kc ks) M [.ref x, .long t] P) (fun M1 P => Ci l g y_Mod_tick b_Mod_tick 5 .int (rk 1 25 0 0) M1 [.ref q, .long t] P) e_tick :=
  pair h (fun X hX => x_tick hX t) (fun M1 Y hY => r_tick hY hm t) (fun X Y X' Y' r1 r2 hC hR hc h1 h2 => k_tick hC hR hc h1 h2)
theorem p_alarm (h : St g M x q o3 m) (hm : m < 512) (i u : Int32) : Pr g M x q o3 m (fun kc ks P => Ci l g y_X_alarm b_X_alarm 3 .int (rk 4 87 kc ks) M [.ref x, .int i, .int u] P) (fun M1 P => Ci l g y_Mod_alarm b_Mod_alarm 3 .int (rk 0 0 0 0) M1 [.ref q, .int i, .int u] P) e_alarm :=
  pair h (fun X hX => x_alarm hX i u) (fun M1 Y hY => r_alarm hY (Nat.le_of_lt hm) i u) (fun X Y X' Y' r1 r2 hC hR hc h1 h2 => k_alarm hC hR hc h1 h2)
theorem p_state (h : St g M x q o3 m) (i : Int32) : Pr g M x q o3 m (fun kc ks P => Ci l g y_X_state b_X_state 2 .int (rk 1 20 kc ks) M [.ref x, .int i] P) (fun M1 P => Ci l g y_Mod_state b_Mod_state 2 .int (rk 1 25 0 0) M1 [.ref q, .int i] P) e_state :=
  pair h (fun X hX => x_state hX i) (fun M1 Y hY => r_state hY i) (fun X Y X' Y' r1 r2 hC hR hc h1 h2 => k_state hC hR hc h1 h2)
theorem p_hol (h : St g M x q o3 m) (t : Int64) : Pr g M x q o3 m (fun kc ks P => Ci l g y_X_holiday b_X_holiday 3 .int (rk 2 46 kc ks) M [.ref x, .long t] P) (fun M1 P => Ci l g y_Mod_holiday b_Mod_holiday 3 .int (rk 1 25 0 0) M1 [.ref q, .long t] P) e_hol :=
  pair h (fun X hX => x_hol hX t) (fun M1 Y hY => r_hol hY t) (fun X Y X' Y' r1 r2 hC hR hc h1 h2 => k_hol hC hR hc h1 h2)
theorem p_perc (h : St g M x q o3 m) (hm : m < 512) (i th : Int32) : Pr g M x q o3 m (fun kc ks P => Cl l g y_X_percentile b_X_percentile 5 (rk 1 24 kc ks) M [.ref x, .int i, .int th] P) (fun M1 P => Cl l g y_Mod_percentile b_Mod_percentile 10 (rk 1 25 0 0) M1 [.ref q, .int i, .int th] P) e_perc :=
  pair h (fun X hX => x_perc hX (Nat.le_of_lt hm) i th) (fun M1 Y hY => r_perc hY (Nat.le_of_lt hm) i th) (fun X Y X' Y' r1 r2 hC hR hc h1 h2 => k_perc (Nat.le_of_lt hm) hC hR hc h1 h2)
theorem p_found (h : St g M x q o3 m) (i : Int32) (t : Int64) : Pr g M x q o3 m (fun kc ks P => Ci l g y_X_found b_X_found 5 .int (rk 2 42 kc ks) M [.ref x, .int i, .long t] P) (fun M1 P => Ci l g y_Mod_found b_Mod_found 4 .int (rk 2 48 0 0) M1 [.ref q, .int i, .long t] P) e_found :=
  pair h (fun X hX => x_found hX i t) (fun M1 Y hY => r_found hY i t) (fun X Y X' Y' r1 r2 hC hR hc h1 h2 => k_found hC hR hc h1 h2)
theorem p_cluster (h : St g M x q o3 m) (hm : m < 512) (i u : Int32) : Pr g M x q o3 m (fun kc ks P => Ci l g y_X_cluster b_X_cluster 4 .int (rk 5 112 kc ks) M [.ref x, .int i, .int u] P) (fun M1 P => Ci l g y_Mod_cluster b_Mod_cluster 8 .int (rk 1 26 0 0) M1 [.ref q, .int i, .int u] P) e_cluster :=
  pair h (fun X hX => x_cluster hX i u) (fun M1 Y hY => r_cluster hY (Nat.le_of_lt hm) i u) (fun X Y X' Y' r1 r2 hC hR hc h1 h2 => k_cluster (Nat.le_of_lt hm) hC hR hc h1 h2)
theorem p_failing (h : St g M x q o3 m) (i : Int32) : Pr g M x q o3 m (fun kc ks P => Ci l g y_X_failing b_X_failing 2 .int (rk 4 85 kc ks) M [.ref x, .int i] P) (fun M1 P => Ci l g y_Mod_failing b_Mod_failing 2 .int (rk 0 0 0 0) M1 [.ref q, .int i] P) e_failing :=
  pair h (fun X hX => x_failing hX i) (fun M1 Y hY => r_failing hY i) (fun X Y X' Y' r1 r2 hC hR hc h1 h2 => k_failing hC hR hc h1 h2)
theorem p_share (h : St g M x q o3 m) (hm : m < 512) (hst : l.stackTraces = false) (i sd : Int32) : ∃ P : Int32 → mm_M → Prop, CtW l g y_Law_share b_Law_share 5 (some .int) hh_share (rk 7 169 1 6) M [.ref x, .int i, .int sd, .ref o3] (fun v M' => ∃ r, v = some (.int r) ∧ P r M') ∧ ∀ r M1, P r M1 → (∃ fs, M1 q = some (ob 20 9 fs)) ∧ ∃ P2, Cl l g y_Mod_share b_Mod_share 4 (rk 1 25 0 0) M1 [.ref q, .int i, .int sd] P2 ∧ ∀ r2 M2, P2 r2 M2 → St g M2 x q o3 (m + 1) ∧ ∃ adr I L S ck fo rs, Rs g M2 q adr I L S ck ∧ M2 o3 = some (al 50 (g.2.2 1) 1 fo) ∧ (r = 0 → fo 0 = rs) ∧ e_share r rs r2 (S 0) := by
  obtain ⟨X, Y, h1, h2, h3, fo, h4⟩ := h
  obtain ⟨P, hP, hp⟩ := x_share h1 (Nat.le_of_lt hm) hst i sd h4
  refine ⟨P, hP, fun r1 M1 hr1 => ?_⟩
  obtain ⟨rs, ho1, hX', ⟨fo2, hfo2, hrs⟩, hs1⟩ := hp r1 M1 hr1
  have h2' := h2.kept (fun u _ hu => hs1 u (by omega))
  obtain ⟨P2, hP2, hp2⟩ := r_share (l := l) h2' (Nat.le_of_lt hm) i sd
  refine ⟨h2'.ob, P2, hP2, fun r2 M2 hr2 => ?_⟩
  obtain ⟨Y', ho2, hY', hs2⟩ := hp2 r2 M2 hr2
  have hk := k_share (Nat.le_of_lt hm) h1.2.2 h2.2 h3 ho1 ho2
  have h5 := hs2 50 (by omega) _ _ hfo2
  exact ⟨⟨X, Y', hX'.kept (fun u _ hu => hs2 u (by omega)), hY', hk.1, fo2, h5⟩, _, _, _, _, _, fo2, rs, hY'.1, h5, hrs, hk.2⟩
end PAIRS
theorem many_0 {P : Nat → Bool} : ∀ n, (∀ i, i < n → P i = false) → many P n = 0
  | 0, _ => rfl
  | n + 1, h => by
    unfold many
    rw [h n (by omega), if_neg (by decide)]
    exact many_0 n (fun i hi => h i (by omega))
theorem ri_new : RI (rz_I 200) (fun _ _ => 0) (fun _ => 0) 0 0 0 0 (fun _ => 0) (fun _ => 0) (fun _ => 0) (fun _ => 0) (fun _ => 0) := by
  refine ⟨⟨rfl, by decide⟩, ⟨rfl, fun z hz => absurd hz (Nat.not_lt_zero z), fun z y hz => absurd hz (Nat.not_lt_zero z)⟩, ⟨0, rfl⟩, ⟨rfl, Nat.le_refl _⟩, fun v _ => ⟨rzo (by decide) v, Nat.le_refl _⟩, fun p _ => ⟨rzo (by decide) p, rzo (by decide) p, Nat.le_refl _, ?_⟩, fun k h1 h2 => absurd h2 (by omega), fun j _ _ => Int64.le_refl 0, fun j _ h => absurd h (by rw [rzo (by decide)]; decide)⟩
  have h := many_0 (P := pend (rz_I 200) p) 200 (fun i _ => decide_eq_false (fun z => absurd z.1 (by rw [rzo (by decide)]; decide)))
  show 0 + many (pend (rz_I 200) p) 200 ≤ 0
  rw [h]; exact Nat.le_refl _
theorem ci_new (F : Nat → Nat → Int32) (fr : Nat → Nat) (R : Nat → rowS) : CI 0 0 0 0 0 0 0 0 0 R fr F (fun _ => 0) (fun _ => 0) (fun _ => it0) := by
  refine ⟨⟨by decide, by decide⟩, ⟨by decide, fun i hi => absurd hi (Nat.not_lt_zero i), fun i j hi => absurd hi (Nat.not_lt_zero i), fun i hi => absurd hi (Nat.not_lt_zero i)⟩, by decide, Nat.le_refl _, ⟨fun j _ => ⟨0, by decide, rfl⟩, Nat.zero_le _, Nat.zero_le _, Nat.zero_le _⟩, fun p _ => ⟨0, 0, rfl, rfl, Nat.le_refl _, Nat.zero_le _⟩⟩
/-- a fresh pair -/
theorem st_new {g : mm_G} {M : mm_M} {x q o3 : Nat} {rl la lf yl da tl lt cn bA lA dl dA2 sA ia : Nat} {fa adr : Nat → Nat} {fo : Nat → Int64} (hox : M x = some (xob rl yl tl cn dl ia 0)) (hRl : Rl g M rl la lf 0 0 0 0 (fun _ => 0) (fun _ => 0)) (hHl : Hl g M yl da 0 (fun _ => 0)) (hTl : Tl g M tl lt 0 0 (fun _ => 0) (fun _ _ => 0)) (hCn : Cn g M cn bA lA (fun _ => 0) (fun _ => 0)) (hDl : Dl g M dl dA2 sA 0 (fun _ => 0) (fun _ => 0)) (hIt : It g M ia fa (fun _ => it0)) (hR : Rs g M q adr (rz_I 200) (fun _ _ => 0) (fun _ => 0) 0) (ho3 : M o3 = some (al 50 (g.2.2 1) 1 fo)) : St g M x q o3 0 := by
  refine ⟨((fun k => match k with | 0 => x | 1 => rl | 2 => la | 3 => lf | 4 => yl | 5 => da | 6 => tl | 7 => lt | 8 => cn | 9 => bA | 10 => lA | 11 => dl | 12 => dA2 | 13 => sA | _ => ia), (fun _ => 0), (fun _ => 0), fa, 0, 0, 0, 0, 0, 0, 0, 0, (fun _ => (0, 0, 0, 0, 0, 0, 0)), (fun _ => 0), (fun _ => 0), (fun _ _ => 0), (fun _ => 0), (fun _ => 0), (fun _ => 0), (fun _ => 0), (fun _ => it0), 0), (adr, rz_I 200, (fun _ _ => 0), (fun _ => 0), 0, 0, 0, 0, (fun _ => 0), (fun _ => 0), (fun _ => 0), (fun _ => 0), (fun _ => 0)), ⟨rfl, ?_, ci_new _ _ _⟩, ⟨hR, ri_new⟩, k_new ⟨rfl, rfl, rfl, rfl, rfl, rfl, rfl, rfl, rfl⟩ ⟨rfl, rfl, rfl, rfl, rfl, rfl, rfl, rfl, rfl, rfl⟩, fo, ho3⟩
  exact ⟨hox, hRl, fun i hi => absurd hi (Nat.not_lt_zero i), fun i j hi => absurd hi (Nat.not_lt_zero i), fun i hi => absurd hi (Nat.not_lt_zero i), hHl, hTl, hCn, hDl, hIt⟩
theorem St.more {g : mm_G} {M : mm_M} {x q o3 m : Nat} (h : St g M x q o3 m) : St g M x q o3 (m + 1) := by
  obtain ⟨X, Y, h1, h2, h3, h4⟩ := h
  exact ⟨X, Y, h1.more, ⟨h2.1, h2.2.more ⟨rfl, rfl, rfl, h2.2.2.2.1⟩ rfl rfl rfl rfl rfl (fun _ _ => Nat.le_refl _) h2.2.2.2.2.2.2.2.2.1 h2.2.2.2.2.2.2.2.2.2⟩, h3, h4⟩
