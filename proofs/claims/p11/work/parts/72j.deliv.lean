/-! DELIVERIES: the class's one sorted list, the reference's arrays by service -/
theorem many_s (P : Nat → Bool) (n : Nat) : many P (n + 1) = many P n + (if P n = true then 1 else 0) := by
  show (if P n = true then many P n + 1 else many P n) = _
  split <;> omega
theorem many_ins {P P' : Nat → Bool} : ∀ c p, p ≤ c → (∀ i, i < p → P' i = P i) → (∀ i, p ≤ i → i < c → P' (i + 1) = P i) → many P' (c + 1) = many P c + (if P' p = true then 1 else 0)
  | 0, p, hp, _, _ => by
    have : p = 0 := by omega
    subst this
    rw [many_s]; rfl
  | c + 1, p, hp, h1, h2 => by
    rw [many_s]
    by_cases z : p = c + 1
    · rw [← z, many_eq p (fun i hi => h1 i hi)]
    · rw [many_ins c p (by omega) h1 (fun i a b => h2 i a (by omega)), h2 c (by omega) (by omega), many_s P c]
      omega
theorem many_mono {P Q : Nat → Bool} : ∀ n, (∀ i, i < n → P i = true → Q i = true) → many P n ≤ many Q n
  | 0, _ => Nat.le_refl _
  | n + 1, h => by
    have ih := many_mono n (fun i hi => h i (by omega))
    rw [many_s, many_s]
    by_cases z : P n = true
    · rw [if_pos z, if_pos (h n (by omega) z)]; omega
    · rw [if_neg z]; split <;> omega
theorem many_at {P : Nat → Bool} : ∀ n m, m ≤ n → many P m ≤ many P n
  | 0, m, h => by rw [show m = 0 by omega]; exact Nat.le_refl _
  | n + 1, m, h => by
    by_cases z : m = n + 1
    · rw [z]; exact Nat.le_refl _
    · have := many_at (P := P) n m (by omega)
      rw [many_s]; omega
theorem many_off0 {P : Nat → Bool} {m : Nat} : ∀ n, m ≤ n → (∀ i, m ≤ i → i < n → P i = false) → many P n = many P m
  | 0, h, _ => by rw [show m = 0 by omega]
  | n + 1, h, hf => by
    by_cases z : m = n + 1
    · rw [z]
    · rw [many_s, hf n (by omega) (by omega), if_neg (by decide), many_off0 n (by omega) (fun i a b => hf i a (by omega)), Nat.add_zero]
theorem many_rank {P : Nat → Bool} : ∀ n r, 1 ≤ r → r ≤ many P n → ∃ j, j < n ∧ P j = true ∧ many P (j + 1) = r
  | 0, r, h1, h2 => absurd h2 (by show ¬ r ≤ 0; omega)
  | n + 1, r, h1, h2 => by
    rcases Nat.lt_or_ge (many P n) r with z | z
    · refine ⟨n, by omega, ?_, ?_⟩
      · rcases h : P n with _ | _
        · rw [many_s, h, if_neg (by decide)] at h2; omega
        · rfl
      · have h3 := many_s P n
        split at h3 <;> omega
    · obtain ⟨j, a, b, c⟩ := many_rank n r h1 z
      exact ⟨j, by omega, b, c⟩
theorem cnt_many (fs : Nat → Int32) (v : Int32) : ∀ n, cnt fs v n = many (fun i => decide (fs i = v)) n
  | 0 => rfl
  | n + 1 => by
    rw [many_s, ← cnt_many fs v n]
    show (if fs n = v then cnt fs v n + 1 else cnt fs v n) = _
    by_cases z : fs n = v
    · rw [if_pos z, if_pos (decide_eq_true z)]
    · rw [if_neg z, if_neg (by rw [decide_eq_false z]; decide)]; rfl
theorem mny_many (f : Nat → Int32) (x : Int32) : ∀ n, mny f x n = many (fun i => decide (f i ≤ x)) n
  | 0 => rfl
  | n + 1 => by
    rw [many_s, ← mny_many f x n]
    show (if f n ≤ x then mny f x n + 1 else mny f x n) = _
    by_cases z : f n ≤ x
    · rw [if_pos z, if_pos (decide_eq_true z)]
    · rw [if_neg z, if_neg (by rw [decide_eq_false z]; decide)]; rfl
/-- of one service, not above x -/
def lec (fd fs : Nat → Int32) (v x : Int32) (n : Nat) : Nat := many (fun i => decide (fs i = v ∧ fd i ≤ x)) n
def CrD (X : XV) (Y : RV) : Prop := (∀ i j, i < j → j < X.cd → X.fd i ≤ X.fd j) ∧ ∀ v, v ≤ 4 → cnt X.fs (nI v) X.cd = Y.cn v ∧ ∀ x, lec X.fd X.fs (nI v) x X.cd = mny (fun z => Y.I 23 (4200 * v + z)) x (Y.cn v)
theorem CrD.eq {X X' : XV} {Y Y' : RV} (h : CrD X Y) (h1 : X'.cd = X.cd) (h2 : X'.fd = X.fd) (h3 : X'.fs = X.fs) (h4 : Y'.cn = Y.cn) (h5 : Y'.I 23 = Y.I 23) : CrD X' Y' := by
  unfold CrD at h ⊢
  rw [h1, h2, h3, h4, h5]
  exact h
theorem ins2_sort {fd fs fd' fs' : Nat → Int32} {c : Nat} {x y : Int32} (h : ins2 fd fs fd' fs' c x y) (hs : ∀ i j, i < j → j < c → fd i ≤ fd j) : ∀ i j, i < j → j < c + 1 → fd' i ≤ fd' j := by
  obtain ⟨p, hp, g1, g2, g3, g4, g5⟩ := h
  have lo : ∀ i, i < p → fd i ≤ x := fun i hi => by
    rcases g5 with z | z
    · omega
    · by_cases y : i = p - 1
      · rw [y]; exact z
      · exact Int32.le_trans (hs i (p - 1) (by omega) (by omega)) z
  intro i j hij hj
  rcases Nat.lt_trichotomy j p with z | z | z
  · rw [(g1 i (by omega)).1, (g1 j z).1]; exact hs i j hij (by omega)
  · rw [z, g2, (g1 i (by omega)).1]; exact lo i (by omega)
  · have ej := g4 (j - 1) (by omega) (by omega)
    rw [show j - 1 + 1 = j by omega] at ej
    rw [ej.1]
    rcases Nat.lt_trichotomy i p with w | w | w
    · rw [(g1 i w).1]
      exact Int32.le_trans (lo i w) (Int32.le_of_lt ej.2.2)
    · rw [w, g2]; exact Int32.le_of_lt ej.2.2
    · have ei := g4 (i - 1) (by omega) (by omega)
      rw [show i - 1 + 1 = i by omega] at ei
      rw [ei.1]; exact hs (i - 1) (j - 1) (by omega) (by omega)
theorem ins2_many {fd fs fd' fs' : Nat → Int32} {c : Nat} {x y : Int32} (h : ins2 fd fs fd' fs' c x y) (G : Int32 → Int32 → Bool) : many (fun i => G (fs' i) (fd' i)) (c + 1) = many (fun i => G (fs i) (fd i)) c + (if G y x = true then 1 else 0) := by
  obtain ⟨p, hp, g1, g2, g3, g4, _⟩ := h
  have := many_ins (P := fun i => G (fs i) (fd i)) (P' := fun i => G (fs' i) (fd' i)) c p hp (fun i hi => by show G (fs' i) (fd' i) = _; rw [(g1 i hi).1, (g1 i hi).2]) (fun i a b => by show G (fs' (i + 1)) (fd' (i + 1)) = _; rw [(g4 i a b).1, (g4 i a b).2.1])
  rw [this]
  show _ + (if G (fs' p) (fd' p) = true then 1 else 0) = _
  rw [g2, g3]
theorem d_event {m : Nat} {X X' : XV} {Y Y' : RV} {r1 r2 : Int32} {i st pl sv : Int32} {t : Int64} (hm : m < 512) (hC : X.ci m) (hR : Y.ri m) (h : CrF X Y) (hd : CrD X Y) (h1 : oXevent i st pl sv t X r1 X') (h2 : oMevent i st pl sv t Y r2 Y') : CrD X' Y' := by
  rcases (ev_match hC hR h.1 h.2.2.1 h1 h2).2 with ⟨rfl, rfl⟩ | ⟨j, p, a, v, tt, hj, hp, ha, hv, htt, ho⟩
  · exact hd.eq rfl rfl rfl rfl rfl
  rcases ho with ⟨h9, fd2, fs2, hin, rfl, rfl⟩ | ⟨h9, rfl, rfl⟩ | ⟨h9, k, hk, hf, rfl, rfl⟩ | ⟨h9, k, hk, rfl, rfl⟩
  · have hcn := (hR.2.2.2.2.1 v hv).2
    have hday : (if (X.v j).1 = (-1) then 0 else ((lN tt - (X.v j).2.1) / 86400).toInt32) = evD Y.I Y.L j (lN tt) := by
      show _ = ((lN tt - evL Y.I Y.L j (lN tt) 8 j) / 86400).toInt32
      rw [evL_8]
      obtain ⟨a1, a2, a3, _⟩ := h.2.2.1 j hj
      rcases a2 with z | z
      · rw [if_pos (a1.trans z), if_pos (by rw [z]; decide), Int64.sub_self]; decide
      · rw [if_neg (fun y => z (by rw [← a1, y]; decide)), if_neg z, (a3 z).1]
    rw [hday] at hin
    refine ⟨ins2_sort hin hd.1, fun u hu => ?_⟩
    have hcu := (hR.2.2.2.2.1 u hu).2
    have e23 : ∀ z, (evDY Y j v tt).I 23 z = up2 (rEnd Y.I j) 23 (4200 * v + Y.cn v) (evD Y.I Y.L j (lN tt)) 23 z := fun z => by
      show up2 (up2 (up2 (rEnd Y.I j) 23 (4200 * v + Y.cn v) (evD Y.I Y.L j (lN tt))) 22 v (nI (Y.cn v + 1))) 7 j (-1) 23 z = _
      rw [up2_f _ _ _ (by decide), up2_f _ _ _ (by decide)]
    have e23o : ∀ z, z ≠ 4200 * v + Y.cn v → (evDY Y j v tt).I 23 z = Y.I 23 z := fun z hz => by
      rw [e23, up2_j _ _ _ hz, rEnd_f Y.I j ⟨by decide, by decide, by decide⟩]
    have evu : nI v = nI u ↔ v = u := nI_eq (by omega) (by omega)
    obtain ⟨o1, o2⟩ := hd.2 u hu
    show cnt fs2 (nI u) (X.cd + 1) = va_up Y.cn v (Y.cn v + 1) u ∧ ∀ x, lec fd2 fs2 (nI u) x (X.cd + 1) = mny (fun z => (evDY Y j v tt).I 23 (4200 * u + z)) x (va_up Y.cn v (Y.cn v + 1) u)
    have c1 := ins2_many hin (fun a _ => decide (a = nI u))
    have c2 : ∀ x, many (fun i => decide (fs2 i = nI u ∧ fd2 i ≤ x)) (X.cd + 1) = many (fun i => decide (X.fs i = nI u ∧ X.fd i ≤ x)) X.cd + (if decide (nI v = nI u ∧ evD Y.I Y.L j (lN tt) ≤ x) = true then 1 else 0) := fun x => ins2_many hin (fun a b => decide (a = nI u ∧ b ≤ x))
    have c1 : many (fun i => decide (fs2 i = nI u)) (X.cd + 1) = many (fun i => decide (X.fs i = nI u)) X.cd + (if decide (nI v = nI u) = true then 1 else 0) := c1
    rw [cnt_many] at o1
    rw [cnt_many, c1, o1]
    by_cases z : u = v
    · subst z
      rw [va_up_self]
      refine ⟨by rw [if_pos (decide_eq_true rfl)], fun x => ?_⟩
      unfold lec
      have o2 := o2 x
      unfold lec at o2
      rw [c2 x, o2, mny_many, mny_many, many_s]
      have e1 : many (fun i => decide ((evDY Y j u tt).I 23 (4200 * u + i) ≤ x)) (Y.cn u) = many (fun i => decide (Y.I 23 (4200 * u + i) ≤ x)) (Y.cn u) := many_eq _ (fun i hi => by
        show decide ((evDY Y j u tt).I 23 (4200 * u + i) ≤ x) = decide (Y.I 23 (4200 * u + i) ≤ x)
        rw [e23o _ (by omega)])
      have e2 : (evDY Y j u tt).I 23 (4200 * u + Y.cn u) = evD Y.I Y.L j (lN tt) := by rw [e23, up2_s]
      rw [e1, e2]
      congr 1
      by_cases w : evD Y.I Y.L j (lN tt) ≤ x
      · rw [if_pos (decide_eq_true ⟨rfl, w⟩), if_pos (decide_eq_true w)]
      · rw [if_neg (by rw [decide_eq_false (fun y => w y.2)]; decide), if_neg (by rw [decide_eq_false w]; decide)]
    · rw [va_up_ne _ _ z]
      have nz : ¬ nI v = nI u := fun y => z (evu.mp y).symm
      refine ⟨by rw [if_neg (by rw [decide_eq_false nz]; decide)]; rfl, fun x => ?_⟩
      unfold lec
      have o2 := o2 x
      unfold lec at o2
      rw [c2 x, o2, mny_many, mny_many, if_neg (by rw [decide_eq_false (fun y => nz y.1)]; decide), Nat.add_zero]
      exact (many_eq _ (fun i hi => by
        show decide ((evDY Y j v tt).I 23 (4200 * u + i) ≤ x) = decide (Y.I 23 (4200 * u + i) ≤ x)
        rw [e23o _ (by omega)])).symm
  · exact hd.eq rfl rfl rfl rfl rfl
  · exact hd.eq rfl rfl rfl rfl rfl
  · exact hd.eq rfl rfl rfl rfl rfl
/-- the least of those that rk of all are not above -/
theorem bst_spec (f : Nat → Int32) (n rk : Nat) : ∀ k, (bst f n rk k = 2147483647 ∨ ∃ z, z < k ∧ bst f n rk k = f z ∧ rk ≤ mny f (f z) n) ∧ ∀ z, z < k → rk ≤ mny f (f z) n → bst f n rk k ≤ f z
  | 0 => ⟨Or.inl rfl, fun z hz => absurd hz (by omega)⟩
  | k + 1 => by
    obtain ⟨h1, h2⟩ := bst_spec f n rk k
    have e : bst f n rk (k + 1) = if rk ≤ mny f (f k) n ∧ f k < bst f n rk k then f k else bst f n rk k := rfl
    rw [e]
    by_cases y : rk ≤ mny f (f k) n ∧ f k < bst f n rk k
    · rw [if_pos y]
      refine ⟨Or.inr ⟨k, by omega, rfl, y.1⟩, fun z hz hr => ?_⟩
      by_cases x : z = k
      · rw [x]; exact Int32.le_refl _
      · exact Int32.le_trans (Int32.le_of_lt y.2) (h2 z (by omega) hr)
    · rw [if_neg y]
      refine ⟨h1.imp id (fun ⟨z, a, b, c⟩ => ⟨z, by omega, b, c⟩), fun z hz hr => ?_⟩
      by_cases x : z = k
      · rw [x] at hr ⊢
        exact Int32.not_lt.mp (fun w => y ⟨hr, w⟩)
      · exact h2 z (by omega) hr
theorem mny_max (f : Nat → Int32) (M : Int32) : ∀ n, 1 ≤ mny f M n → ∃ z, z < n ∧ f z ≤ M ∧ ∀ y, y < n → f y ≤ M → f y ≤ f z
  | 0, h => absurd h (by show ¬ 1 ≤ 0; omega)
  | n + 1, h => by
    have e : mny f M (n + 1) = if f n ≤ M then mny f M n + 1 else mny f M n := rfl
    by_cases w : 1 ≤ mny f M n
    · obtain ⟨z, a, b, c⟩ := mny_max f M n w
      by_cases x : f n ≤ M ∧ f z < f n
      · refine ⟨n, by omega, x.1, fun y hy hm => ?_⟩
        by_cases q : y = n
        · rw [q]; exact Int32.le_refl _
        · exact Int32.le_trans (c y (by omega) hm) (Int32.le_of_lt x.2)
      · refine ⟨z, by omega, b, fun y hy hm => ?_⟩
        by_cases q : y = n
        · rw [q] at hm ⊢
          exact Int32.not_lt.mp (fun v => x ⟨hm, v⟩)
        · exact c y (by omega) hm
    · have fm : f n ≤ M := by
        rcases Decidable.em (f n ≤ M) with q | q
        · exact q
        · rw [e, if_neg q] at h; exact absurd h w
      refine ⟨n, by omega, fm, fun y hy hm => ?_⟩
      by_cases q : y = n
      · rw [q]; exact Int32.le_refl _
      · exfalso
        apply w
        rw [mny_many]
        have h1 := many_at (P := fun i => decide (f i ≤ M)) n (y + 1) (by omega)
        rw [many_s, if_pos (decide_eq_true hm)] at h1
        omega
theorem bst_eq {f : Nat → Int32} {n rk : Nat} {M : Int32} (h1 : 1 ≤ rk) (ha : rk ≤ mny f M n) (hb : ∀ x, x < M → mny f x n < rk) : bst f n rk n = M := by
  obtain ⟨z, hz, hzM, hmx⟩ := mny_max f M n (by omega)
  have e : mny f (f z) n = mny f M n := by
    rw [mny_many, mny_many]
    refine many_eq n (fun i hi => decide_eq_decide.mpr ⟨fun q => Int32.le_trans q hzM, fun q => hmx i hi q⟩)
  have eM : f z = M := by
    rcases Int32.lt_or_eq_of_le hzM with q | q
    · have := hb _ q; omega
    · exact q
  obtain ⟨s1, s2⟩ := bst_spec f n rk n
  have le := s2 z hz (by rw [e]; exact ha)
  rw [eM] at le
  rcases s1 with q | ⟨y, hy, q1, q2⟩
  · rw [q] at le ⊢
    exact Int32.le_antisymm le (by
      rw [Int32.le_iff_toInt_le]
      have := Int32.toInt_lt M
      show M.toInt ≤ 2147483647
      omega)
  · rw [q1] at le ⊢
    refine Int32.le_antisymm le ?_
    exact Int32.not_lt.mp (fun w => by have := hb _ w; omega)
theorem q_perc {m : Nat} {X X' : XV} {Y Y' : RV} {s1 s2 : Int64} (hm : m ≤ 512) (hR : Y.ri m) (hd : CrD X Y) {i u : Int32} (h1 : oXperc i u X s1 X') (h2 : oMperc i u Y s2 Y') : s1 = s2 := by
  have hu1 : (0 ≤ u ∧ u ≤ 1000) ↔ ∃ b : Nat, b ≤ 1000 ∧ u = nI b := by
    constructor
    · intro h
      exact nI_of2 (n := 1000) rfl (Int32.not_lt.mpr h.1) h.2
    · rintro ⟨a, ha, rfl⟩
      exact ⟨nI_pos' (by omega), show nI a ≤ nI 1000 from nI_le ha (by decide)⟩
  rcases h1.2 with ⟨n1, rfl⟩ | ⟨y1, rd, rk0, rfl, hrk, hj⟩
  · rcases h2.2 with ⟨_, rfl⟩ | ⟨j, b, hj, hb, rfl, rfl, _⟩
    · rfl
    · exact absurd ⟨n_v5.mpr ⟨j, hj, rfl⟩, hu1.mpr ⟨b, hb, rfl⟩⟩ n1
  · rcases h2.2 with ⟨n2, _⟩ | ⟨v, b, hv, hb, rfl, rfl, h3⟩
    · obtain ⟨j, hj, e⟩ := n_v5.mp y1.1
      obtain ⟨b, hb, e2⟩ := hu1.mp y1.2
      exact absurd ⟨j, b, hj, hb, e, e2⟩ n2
    obtain ⟨c1, c2⟩ := hd.2 v hv
    have hcn := (hR.2.2.2.2.1 v hv).2
    have hnb : Y.cn v * b ≤ 512 * 1000 := Nat.mul_le_mul (by omega) hb
    have erk : rk0 = nI (rkv (Y.cn v) b) := by
      have e0 : nI (Y.cn v) * nI b + 1000 - 1 = nI (Y.cn v * b + 999) := by
        rw [pk_mul, show (1000 : Int32) = nI 1000 from rfl, nI_add, show (1 : Int32) = nI 1 from rfl, pk_sub (by omega)]
        rfl
      have e1 : nI (Y.cn v * b + 999) / 1000 = nI ((Y.cn v * b + 999) / 1000) := pk_div (d := 1000) (by omega) (by decide) (by decide)
      have e2 : nI ((Y.cn v * b + 999) / 1000) < 1 ↔ (Y.cn v * b + 999) / 1000 < 1 := nI_ltI (b := 1) (by omega) (by decide)
      rw [hrk, c1, e0, e1]
      unfold rkv
      by_cases z : (Y.cn v * b + 999) / 1000 < 1
      · rw [if_pos z, if_pos (e2.mpr z)]; rfl
      · rw [if_neg z, if_neg (fun y => z (e2.mp y))]
    have hr1 : 1 ≤ rkv (Y.cn v) b := by unfold rkv; split <;> omega
    have hr2 : 0 < Y.cn v → rkv (Y.cn v) b ≤ Y.cn v := fun z => by
      have : Y.cn v * b ≤ Y.cn v * 1000 := Nat.mul_le_mul_left _ hb
      unfold rkv
      split <;> omega
    have hr3 : rkv (Y.cn v) b ≤ 513 := by unfold rkv; split <;> omega
    have hcl : ∀ k, cnt X.fs (nI v) k ≤ k := cnt_le _ _
    have hcd : ∀ k, k ≤ X.cd → cnt X.fs (nI v) k ≤ Y.cn v := fun k hk => by rw [← c1, cnt_many, cnt_many]; exact many_at _ _ hk
    have emk : ∀ k, k ≤ X.cd → (nI (cnt X.fs (nI v) k) = nI (rkv (Y.cn v) b) ↔ cnt X.fs (nI v) k = rkv (Y.cn v) b) := fun k hk => nI_eq (by have := hcd k hk; omega) (by omega)
    rw [erk] at hj
    rcases hj with ⟨j, hj, ⟨f1, f2⟩, rfl⟩ | ⟨nj, rfl⟩
    · have f2 := (emk (j + 1) (by omega)).mp f2
      have ps : 0 < Y.cn v := by have := hcd (j + 1) (by omega); omega
      rcases h3 with ⟨z, _⟩ | ⟨_, rfl⟩
      · omega
      rw [bst_eq (M := X.fd j) hr1 ?_ ?_]
      · rw [← c2, ← f2, cnt_many]
        unfold lec
        refine Nat.le_trans (many_mono (P := fun i => decide (X.fs i = nI v)) (Q := fun i => decide (X.fs i = nI v ∧ X.fd i ≤ X.fd j)) (j + 1) (fun i hi w => decide_eq_true ⟨of_decide_eq_true w, ?_⟩)) (many_at X.cd (j + 1) (by omega))
        by_cases q : i = j
        · rw [q]; exact Int32.le_refl _
        · exact hd.1 i j (by omega) hj
      · intro x hx
        rw [← c2]
        unfold lec
        have e1 : many (fun i => decide (X.fs i = nI v ∧ X.fd i ≤ x)) X.cd = many (fun i => decide (X.fs i = nI v ∧ X.fd i ≤ x)) j := many_off0 X.cd (by omega) (fun i a b2 => decide_eq_false (fun w => by
          have hij : X.fd j ≤ X.fd i := by
            by_cases q : i = j
            · rw [q]; exact Int32.le_refl _
            · exact hd.1 j i (by omega) b2
          exact absurd (Int32.le_trans hij w.2) (Int32.not_le.mpr hx)))
        have e2 := many_mono (P := fun i => decide (X.fs i = nI v ∧ X.fd i ≤ x)) (Q := fun i => decide (X.fs i = nI v)) j (fun i _ w => decide_eq_true (of_decide_eq_true w).1)
        have e3 : cnt X.fs (nI v) (j + 1) = cnt X.fs (nI v) j + 1 := if_pos f1
        rw [cnt_many X.fs (nI v) j] at e3
        omega
    · rcases h3 with ⟨_, rfl⟩ | ⟨z, _⟩
      · decide
      · exfalso
        obtain ⟨j, a, b1, c⟩ := many_rank (P := fun i => decide (X.fs i = nI v)) X.cd (rkv (Y.cn v) b) hr1 (by rw [← cnt_many, c1]; exact hr2 z)
        exact nj j a ⟨of_decide_eq_true b1, by rw [cnt_many, c]⟩
