/-! CLUSTERS: the class's count of those before, and the reference's search -/
theorem many_z {P : Nat → Bool} : ∀ n, (∀ i, i < n → P i = false) → many P n = 0
  | 0, _ => rfl
  | n + 1, h => by
    unfold many
    rw [h n (by omega), if_neg (by decide)]
    exact many_z n (fun i hi => h i (by omega))
section CLU
variable {I : Nat → Nat → Int32} {bg lt : Nat → Nat}
/-- a cluster -/
def isC (I : Nat → Nat → Int32) (p : Nat) : Prop := p < 50 ∧ ¬ I 21 p ≤ 2
theorem isC.pos (hC : Cts I bg lt) {p : Nat} (h : isC I p) : 0 < bg p := by
  obtain ⟨q1, q2, q3, q4⟩ := hC p h.1
  have h2 := h.2
  rw [q2] at h2
  rcases Nat.eq_zero_or_pos (bg p) with z | z
  · exact absurd (show nI (lt p) ≤ nI 2 from nI_le (by omega) (by decide)) h2
  · exact z
theorem cOrd_tot (a b : Nat) (h : a ≠ b) : cOrd bg lt a b ∨ cOrd bg lt b a := by
  unfold cOrd
  rcases Nat.lt_trichotomy (lt b * bg a) (lt a * bg b) with z | z | z
  · exact Or.inl (Or.inl z)
  · rcases Nat.lt_trichotomy a b with y | y | y
    · exact Or.inl (Or.inr ⟨z.symm, y⟩)
    · exact absurd y h
    · exact Or.inr (Or.inr ⟨z, y⟩)
  · exact Or.inr (Or.inl z)
/-- how many clusters come before p -/
def rnk (I : Nat → Nat → Int32) (p n : Nat) : Nat := many (fun q => decide (¬ I 21 q ≤ 2 ∧ bf I q p)) n
theorem rnk_s (I : Nat → Nat → Int32) (p n : Nat) : rnk I p (n + 1) = if (¬ I 21 n ≤ 2 ∧ bf I n p) then rnk I p n + 1 else rnk I p n := by
  unfold rnk
  by_cases z : ¬ I 21 n ≤ 2 ∧ bf I n p
  · rw [if_pos z]; show (if decide (¬ I 21 n ≤ 2 ∧ bf I n p) = true then _ else _) = _; rw [if_pos (decide_eq_true z)]
  · rw [if_neg z]; show (if decide (¬ I 21 n ≤ 2 ∧ bf I n p) = true then _ else _) = _; rw [if_neg (by rw [decide_eq_false z]; decide)]
theorem rnk_key (hC : Cts I bg lt) {a b : Nat} (ha : isC I a) (hb : isC I b) (h : cOrd bg lt a b) : ∀ n, n ≤ 50 → (rnk I a n ≤ rnk I b n) ∧ (a < n → rnk I a n < rnk I b n)
  | 0, _ => ⟨Nat.zero_le (rnk I b 0), fun z => absurd z (Nat.not_lt_zero _)⟩
  | n + 1, hn => by
    have ih := rnk_key hC ha hb h n (by omega)
    have sub : (¬ I 21 n ≤ 2 ∧ bf I n a) → (¬ I 21 n ≤ 2 ∧ bf I n b) := fun z => ⟨z.1, (bf_ord hC (by omega) hb.1).mpr (cOrd_trans (isC.pos hC ha) (isC.pos hC ⟨by omega, z.1⟩) (isC.pos hC hb) ((bf_ord hC (by omega) ha.1).mp z.2) h)⟩
    rw [rnk_s I a n, rnk_s I b n]
    by_cases z : a = n
    · have na : ¬ (¬ I 21 n ≤ 2 ∧ bf I n a) := fun y => by
        have y2 : bf I a a := by rw [← z] at y; exact y.2
        exact cOrd_irr ((bf_ord hC ha.1 ha.1).mp y2)
      have nb : ¬ I 21 n ≤ 2 ∧ bf I n b := by rw [← z]; exact ⟨ha.2, (bf_ord hC ha.1 hb.1).mpr h⟩
      rw [if_neg na, if_pos nb]
      exact ⟨Nat.le_succ_of_le ih.1, fun _ => Nat.lt_succ_of_le ih.1⟩
    · by_cases y : ¬ I 21 n ≤ 2 ∧ bf I n a
      · rw [if_pos y, if_pos (sub y)]
        exact ⟨Nat.succ_le_succ ih.1, fun x => Nat.succ_lt_succ (ih.2 (by omega))⟩
      · rw [if_neg y]
        by_cases w : ¬ I 21 n ≤ 2 ∧ bf I n b
        · rw [if_pos w]; exact ⟨Nat.le_succ_of_le ih.1, fun _ => Nat.lt_succ_of_le ih.1⟩
        · rw [if_neg w]; exact ⟨ih.1, fun x => ih.2 (by omega)⟩
theorem rnk_lt (hC : Cts I bg lt) {a b : Nat} (ha : isC I a) (hb : isC I b) (h : cOrd bg lt a b) : rnk I a 50 < rnk I b 50 := (rnk_key hC ha hb h 50 (Nat.le_refl _)).2 ha.1
theorem sel_min (hC : Cts I bg lt) {pl : Option Nat} : ∀ n, n ≤ 50 → (∀ b, sel I pl n = some b → ∀ q, q < n → ¬ I 21 q ≤ 2 → obf1 I pl q = true → q = b ∨ cOrd bg lt b q) ∧ (sel I pl n = none → ∀ q, q < n → ¬ I 21 q ≤ 2 → ¬ obf1 I pl q = true)
  | 0, _ => ⟨fun b hb => (by cases hb), fun _ q hq => absurd hq (by omega)⟩
  | n + 1, hn => by
    have ih := sel_min hC (pl := pl) n (by omega)
    have es : sel I pl (n + 1) = if (¬ I 21 n ≤ 2) ∧ obf1 I pl n = true ∧ obf2 I n (sel I pl n) = true then some n else sel I pl n := rfl
    rw [es]
    by_cases z : (¬ I 21 n ≤ 2) ∧ obf1 I pl n = true ∧ obf2 I n (sel I pl n) = true
    · rw [if_pos z]
      refine ⟨fun b hb q hq h1 h2 => ?_, fun y => (by cases y)⟩
      cases hb
      by_cases y : q = n
      · exact Or.inl y
      · right
        cases hs : sel I pl n with
        | none => exact absurd h2 (ih.2 hs q (by omega) h1)
        | some b =>
          have h3 := z.2.2
          rw [hs] at h3
          have hb := sel_spec hs
          have hbl := sel_lt hs
          have o1 : cOrd bg lt n b := (bf_ord hC (by omega) (by omega)).mp (of_decide_eq_true h3)
          rcases ih.1 b hs q (by omega) h1 h2 with x | x
          · rw [x]; exact o1
          · exact cOrd_trans (isC.pos hC ⟨by omega, hb.1⟩) (isC.pos hC ⟨by omega, z.1⟩) (isC.pos hC ⟨by omega, h1⟩) o1 x
    · rw [if_neg z]
      refine ⟨fun b hb q hq h1 h2 => ?_, fun hs q hq h1 h2 => ?_⟩
      · by_cases y : q = n
        · subst y
          have hbl := sel_lt hb
          have n3 : ¬ bf I q b := fun x => z ⟨h1, h2, by rw [hb]; exact decide_eq_true x⟩
          rw [bf_ord hC (by omega) (by omega)] at n3
          exact (cOrd_tot b q (by omega)).elim Or.inr (fun x => absurd x n3)
        · exact ih.1 b hb q (by omega) h1 h2
      · by_cases y : q = n
        · subst y
          exact z ⟨h1, h2, by rw [hs]; rfl⟩
        · exact ih.2 hs q (by omega) h1 h2
theorem clp_rnk (hC : Cts I bg lt) : ∀ k, (∀ a, clp I (k + 1) = some a → isC I a ∧ rnk I a 50 = k) ∧ (clp I (k + 1) = none → ∀ p, isC I p → rnk I p 50 < k)
  | 0 => by
    have e : clp I (0 + 1) = sel I none 50 := rfl
    have hm := sel_min hC (pl := none) 50 (Nat.le_refl _)
    rw [e]
    refine ⟨fun a ha => ?_, fun hn p hp => absurd rfl (hm.2 hn p hp.1 hp.2)⟩
    have hs := sel_spec ha
    have ic : isC I a := ⟨sel_lt ha, hs.1⟩
    refine ⟨ic, many_z 50 (fun i hi => decide_eq_false (fun z => ?_))⟩
    have o := (bf_ord hC hi ic.1).mp z.2
    rcases hm.1 a ha i hi z.1 rfl with y | y
    · rw [y] at o; exact cOrd_irr o
    · exact cOrd_irr (cOrd_trans (isC.pos hC ⟨hi, z.1⟩) (isC.pos hC ic) (isC.pos hC ic) y o)
  | k + 1 => by
    have ih := clp_rnk hC k
    have e : clp I (k + 1 + 1) = match clp I (k + 1) with | none => none | some a => sel I (some a) 50 := by
      show (if k + 1 = 0 then _ else _) = _
      rw [if_neg (by omega)]
      rfl
    rw [e]
    cases hk : clp I (k + 1) with
    | none =>
      refine ⟨fun a ha => (by cases ha), fun _ p hp => ?_⟩
      have := ih.2 hk p hp
      omega
    | some a =>
      obtain ⟨ia, ra⟩ := ih.1 a hk
      have hm := sel_min hC (pl := some a) 50 (Nat.le_refl _)
      have ob : ∀ q, q < 50 → (obf1 I (some a) q = true ↔ cOrd bg lt a q) := fun q hq => by
        show decide (bf I a q) = true ↔ _
        rw [decide_eq_true_iff]; exact bf_ord hC ia.1 hq
      refine ⟨fun b hb => ?_, fun hn p hp => ?_⟩
      · have hb : sel I (some a) 50 = some b := hb
        have hs := sel_spec hb
        have ib : isC I b := ⟨sel_lt hb, hs.1⟩
        have oab := (ob b ib.1).mp hs.2
        refine ⟨ib, ?_⟩
        have hab : a ≠ b := fun z => by rw [z] at oab; exact cOrd_irr oab
        have := many_off (P := fun q => decide (¬ I 21 q ≤ 2 ∧ bf I q b)) (Q := fun q => decide (¬ I 21 q ≤ 2 ∧ bf I q a)) (j := a) 50 ia.1 (fun q hq hqa => ?_) (decide_eq_true ⟨ia.2, (bf_ord hC ia.1 ib.1).mpr oab⟩) (decide_eq_false (fun z => cOrd_irr ((bf_ord hC ia.1 ia.1).mp z.2)))
        · show many (fun q => decide (¬ I 21 q ≤ 2 ∧ bf I q b)) 50 = k + 1
          rw [this]
          exact congrArg (· + 1) ra
        · show decide (¬ I 21 q ≤ 2 ∧ bf I q b) = decide (¬ I 21 q ≤ 2 ∧ bf I q a)
          apply decide_eq_decide.mpr
          constructor
          · rintro ⟨z1, z2⟩
            refine ⟨z1, (bf_ord hC hq ia.1).mpr ?_⟩
            have oqb := (bf_ord hC hq ib.1).mp z2
            rcases cOrd_tot (bg := bg) (lt := lt) q a hqa with y | y
            · exact y
            · exfalso
              rcases hm.1 b hb q hq z1 ((ob q hq).mpr y) with x | x
              · rw [x] at oqb; exact cOrd_irr oqb
              · exact cOrd_irr (cOrd_trans (isC.pos hC ⟨hq, z1⟩) (isC.pos hC ib) (isC.pos hC ib) x oqb)
          · rintro ⟨z1, z2⟩
            exact ⟨z1, (bf_ord hC hq ib.1).mpr (cOrd_trans (isC.pos hC ia) (isC.pos hC ⟨hq, z1⟩) (isC.pos hC ib) ((bf_ord hC hq ia.1).mp z2) oab)⟩
      · have hn : sel I (some a) 50 = none := hn
        by_cases z : p = a
        · rw [z, ra]; omega
        · rcases cOrd_tot (bg := bg) (lt := lt) a p (fun y => z y.symm) with y | y
          · exact absurd ((ob p hp.1).mpr y) (hm.2 hn p hp.1 hp.2)
          · have := rnk_lt hC hp ia y
            omega
theorem clp_iff (hC : Cts I bg lt) {k p : Nat} : clp I (k + 1) = some p ↔ isC I p ∧ rnk I p 50 = k := by
  constructor
  · exact fun h => (clp_rnk hC k).1 p h
  · rintro ⟨ip, rp⟩
    cases hk : clp I (k + 1) with
    | none => have := (clp_rnk hC k).2 hk p ip; omega
    | some a =>
      obtain ⟨ia, ra⟩ := (clp_rnk hC k).1 a hk
      by_cases z : a = p
      · rw [z]
      · exfalso
        rcases cOrd_tot (bg := bg) (lt := lt) a p z with y | y
        · have := rnk_lt hC ia ip y; omega
        · have := rnk_lt hC ip ia y; omega
end CLU
theorem n_le2 {x : Int32} : 3 ≤ x ↔ ¬ x ≤ 2 := by
  rw [Int32.le_iff_toInt_le, Int32.le_iff_toInt_le, show (3 : Int32).toInt = 3 from rfl, show (2 : Int32).toInt = 2 from rfl]
  omega
theorem cbN_rnk {fb fl : Nat → Int32} {I : Nat → Nat → Int32} (h : ∀ p, p < 50 → fb p = I 20 p ∧ fl p = I 21 p) {p : Nat} (hp : p < 50) : ∀ n, n ≤ 50 → cbN fb fl p n = rnk I p n
  | 0, _ => rfl
  | n + 1, hn => by
    have ih := cbN_rnk h hp n (by omega)
    obtain ⟨a1, a2⟩ := h n (by omega)
    obtain ⟨b1, b2⟩ := h p hp
    show (if 3 ≤ fl n ∧ bfx fb fl n p then cbN fb fl p n + 1 else cbN fb fl p n) = many (fun q => decide (¬ I 21 q ≤ 2 ∧ bf I q p)) (n + 1)
    have e : (3 ≤ fl n ∧ bfx fb fl n p) ↔ (¬ I 21 n ≤ 2 ∧ bf I n p) := by
      show (3 ≤ fl n ∧ ((fl p).toInt64 * (fb n).toInt64 < (fl n).toInt64 * (fb p).toInt64 ∨ ((fl n).toInt64 * (fb p).toInt64 = (fl p).toInt64 * (fb n).toInt64 ∧ nI n < nI p))) ↔ _
      rw [n_le2, a1, a2, b1, b2]
    unfold many
    by_cases z : ¬ I 21 n ≤ 2 ∧ bf I n p
    · rw [if_pos (e.mpr z), if_pos (decide_eq_true z), ih]; rfl
    · rw [if_neg (fun y => z (e.mp y)), if_neg (by rw [decide_eq_false z]; decide), ih]; rfl
theorem q_cluster {m : Nat} {X X' : XV} {Y Y' : RV} {r1 r2 : Int32} (hm : m ≤ 512) (hR : Y.ri m) (h : CrF X Y) {i u : Int32} (h1 : oXcluster i u X r1 X') (h2 : oMcluster i u Y r2 Y') : r1 = r2 := by
  have hC := RI.cts hR hm
  have hcc := h.2.2.2.1
  have hcb : ∀ p, p < 50 → cbN X.fb X.fl p 50 = rnk Y.I p 50 := fun p hp => cbN_rnk hcc hp 50 (Nat.le_refl _)
  have h3 : ∀ p, p < 50 → (3 ≤ X.fl p ↔ ¬ Y.I 21 p ≤ 2) := fun p hp => by rw [n_le2, (hcc p hp).2]
  have hrk : ∀ p, rnk Y.I p 50 ≤ 50 := fun p => many_le _ 50
  obtain ⟨o, hf, rfl⟩ := h2.2
  rcases h1.2 with ⟨n1, rfl⟩ | ⟨k, hk, y1, _, hu⟩
  · have ho : o = none := by
      rcases hf with ⟨_, ho⟩ | ⟨_, (⟨_, ho⟩ | ⟨ii, hii, rfl, ho⟩)⟩
      · exact ho
      · exact ho
      · cases o with
        | none => rfl
        | some p =>
          obtain ⟨ip, rp⟩ := (clp_iff hC).mp ho.symm
          exact absurd ⟨(h3 p ip.1).mpr ip.2, by rw [hcb p ip.1, rp]⟩ (n1 p ip.1)
    rw [ho]; rfl
  · have ek : clp Y.I (rnk Y.I k 50 + 1) = some k := (clp_iff hC).mpr ⟨⟨hk, (h3 k hk).mp y1.1⟩, rfl⟩
    have hi : i = nI (rnk Y.I k 50) := by rw [← hcb k hk]; exact y1.2.symm
    have hr := hrk k
    rcases hf with ⟨nu, rfl⟩ | ⟨⟨v, hv, rfl⟩, (⟨z, _⟩ | ⟨ii, hii, e, rfl⟩)⟩
    · rcases hu with ⟨rfl, _⟩ | ⟨rfl, _⟩ | ⟨rfl, _⟩ | ⟨_, rfl⟩
      · exact absurd ⟨0, by decide, rfl⟩ nu
      · exact absurd ⟨1, by decide, rfl⟩ nu
      · exact absurd ⟨2, by decide, rfl⟩ nu
      · rfl
    · exact absurd z (by rw [hi]; exact Int32.not_lt.mpr (nI_pos' (by omega)))
    · have ei : ii = rnk Y.I k 50 := ((nI_eq (by omega) hii).mp (hi.symm.trans e)).symm
      rw [ei, ek]
      show r1 = if nI v = 0 then nI k else if nI v = 1 then Y.I 21 k else Y.I 20 k
      have e0 : nI v = 0 ↔ v = 0 := nI_eq (b := 0) (by omega) (by decide)
      have e1 : nI v = 1 ↔ v = 1 := nI_eq (b := 1) (by omega) (by decide)
      rcases hu with ⟨w, rfl⟩ | ⟨w, rfl⟩ | ⟨w, rfl⟩ | ⟨w, _⟩
      · rw [if_pos (show nI v = 0 from w)]
      · have : v = 1 := e1.mp w
        rw [if_neg (fun y => by have := e0.mp y; omega), if_pos (show nI v = 1 from w)]; exact (hcc k hk).2
      · have : v = 2 := (nI_eq (b := 2) (by omega) (by decide)).mp w
        rw [if_neg (fun y => by have := e0.mp y; omega), if_neg (fun y => by have := e1.mp y; omega)]; exact (hcc k hk).1
      · exact absurd rfl (w v hv)
