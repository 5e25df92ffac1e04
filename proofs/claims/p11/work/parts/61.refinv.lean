/-! THE REFERENCE's STATE: what stays true, whatever is called -/
def cOrd (bg lt : Nat → Nat) (a b : Nat) : Prop := lt b * bg a < lt a * bg b ∨ (lt a * bg b = lt b * bg a ∧ a < b)
theorem cOrd_trans {bg lt : Nat → Nat} {a b c : Nat} (hb : 0 < bg b) (ha : 0 < bg a) (hc : 0 < bg c) (h1 : cOrd bg lt a b) (h2 : cOrd bg lt b c) : cOrd bg lt a c := by
  have k1 : lt c * bg b * bg a = lt c * bg a * bg b := by rw [Nat.mul_assoc, Nat.mul_comm (bg b), ← Nat.mul_assoc]
  have k2 : lt b * bg c * bg a = lt b * bg a * bg c := by rw [Nat.mul_assoc, Nat.mul_comm (bg c), ← Nat.mul_assoc]
  have k3 : lt a * bg b * bg c = lt a * bg c * bg b := by rw [Nat.mul_assoc, Nat.mul_comm (bg b), ← Nat.mul_assoc]
  rcases h1 with h1 | ⟨h1, o1⟩
  · have s1 : lt b * bg a * bg c < lt a * bg b * bg c := Nat.mul_lt_mul_of_pos_right h1 hc
    have s2 : lt c * bg b * bg a ≤ lt b * bg c * bg a := Nat.mul_le_mul_right _ (by rcases h2 with h2 | ⟨h2, _⟩ <;> omega)
    exact Or.inl (Nat.lt_of_mul_lt_mul_right (a := bg b) (by omega))
  · rcases h2 with h2 | ⟨h2, o2⟩
    · have s2 : lt c * bg b * bg a < lt b * bg c * bg a := Nat.mul_lt_mul_of_pos_right h2 ha
      have s1 : lt b * bg a * bg c = lt a * bg b * bg c := by rw [h1]
      exact Or.inl (Nat.lt_of_mul_lt_mul_right (a := bg b) (by omega))
    · have s2 : lt c * bg b * bg a = lt b * bg c * bg a := by rw [h2]
      have s1 : lt b * bg a * bg c = lt a * bg b * bg c := by rw [h1]
      exact Or.inr ⟨Nat.eq_of_mul_eq_mul_right hb (by omega), by omega⟩
theorem cOrd_irr {bg lt : Nat → Nat} {a : Nat} (h : cOrd bg lt a a) : False := by
  rcases h with h | ⟨_, h⟩ <;> omega
/-- the counts as numbers -/
def Cts (I : Nat → Nat → Int32) (bg lt : Nat → Nat) : Prop := ∀ p, p < 50 → I 20 p = nI (bg p) ∧ I 21 p = nI (lt p) ∧ bg p < 2 ^ 20 ∧ lt p ≤ bg p
theorem bf_ord {I : Nat → Nat → Int32} {bg lt : Nat → Nat} (h : Cts I bg lt) {a b : Nat} (ha : a < 50) (hb : b < 50) : bf I a b ↔ cOrd bg lt a b := by
  obtain ⟨a1, a2, a3, a4⟩ := h a ha
  obtain ⟨b1, b2, b3, b4⟩ := h b hb
  unfold bf cOrd
  rw [a1, a2, b1, b2, (prod_lt (by omega) (by omega) (by omega) (by omega)).1, (prod_lt (by omega) (by omega) (by omega) (by omega)).2, nI_ltI (by omega) (by omega)]
theorem sel_spec {I : Nat → Nat → Int32} {pl : Option Nat} : ∀ {p b : Nat}, sel I pl p = some b → ¬ I 21 b ≤ 2 ∧ obf1 I pl b = true
  | 0, b, h => by cases h
  | p + 1, b, h => by
    unfold sel at h
    split at h
    · rename_i hc
      cases h
      exact ⟨hc.1, hc.2.1⟩
    · exact sel_spec h
theorem clp_dn {I : Nat → Nat → Int32} : ∀ {k a : Nat}, clp I k = some a → ∀ j, 1 ≤ j → j ≤ k → ∃ b, clp I j = some b
  | 0, a, h, j, h1, h2 => absurd h1 (by omega)
  | k + 1, a, h, j, h1, h2 => by
    by_cases z : j = k + 1
    · exact ⟨a, z ▸ h⟩
    · unfold clp at h
      split at h
      · omega
      · split at h
        · cases h
        · rename_i b hb
          exact clp_dn hb j h1 (by omega)
theorem clp_cl {I : Nat → Nat → Int32} {k a : Nat} (h : clp I k = some a) : ¬ I 21 a ≤ 2 := by
  cases k with
  | zero => cases h
  | succ k =>
    unfold clp at h
    split at h
    · exact (sel_spec h).1
    · split at h
      · cases h
      · exact (sel_spec h).1
theorem clp_step {I : Nat → Nat → Int32} {k a b : Nat} (hk : 1 ≤ k) (ha : clp I k = some a) (hb : clp I (k + 1) = some b) : bf I a b := by
  unfold clp at hb
  rw [if_neg (by omega), ha] at hb
  have h := (sel_spec hb).2
  exact of_decide_eq_true h
theorem clp_50 {I : Nat → Nat → Int32} {bg lt : Nat → Nat} (hC : Cts I bg lt) : ∀ k a, clp I k = some a → k ≤ 50 := by
  intro k a h
  have hall : ∀ j, j < k → ∃ b, clp I (j + 1) = some b := fun j hj => clp_dn h (j + 1) (by omega) (by omega)
  have hpos : ∀ j b, clp I (j + 1) = some b → b < 50 ∧ 0 < bg b := fun j b hb => by
    have h1 := clp_lt hb
    have h2 := clp_cl hb
    obtain ⟨q1, q2, q3, q4⟩ := hC b h1
    refine ⟨h1, ?_⟩
    rw [q2] at h2
    rcases Nat.eq_zero_or_pos (bg b) with z | z
    · exact absurd (show nI (lt b) ≤ nI 2 from nI_le (by omega) (by decide)) h2
    · exact z
  have hord : ∀ d j b c, j + d + 1 < k → clp I (j + 1) = some b → clp I (j + d + 2) = some c → cOrd bg lt b c := by
    intro d
    induction d with
    | zero =>
      intro j b c hj hb hc
      exact (bf_ord hC (hpos j b hb).1 (hpos (j + 1) c hc).1).mp (clp_step (by omega) hb hc)
    | succ d ih =>
      intro j b c hj hb hc
      obtain ⟨e, he⟩ := hall (j + d + 1) (by omega)
      have h1 := ih j b e (by omega) hb he
      have h2 := (bf_ord hC (hpos (j + d + 1) e he).1 (hpos (j + d + 2) c hc).1).mp (clp_step (by omega) he hc)
      exact cOrd_trans (hpos _ e he).2 (hpos _ b hb).2 (hpos (j + d + 2) c hc).2 h1 h2
  refine inj_le 50 k (fun j => (clp I (j + 1)).getD 0) (fun j hj => ?_) (fun i j hi hj e => ?_)
  · obtain ⟨b, hb⟩ := hall j hj
    show (clp I (j + 1)).getD 0 < 50
    rw [hb]; exact (hpos j b hb).1
  · obtain ⟨b, hb⟩ := hall i hi
    obtain ⟨c, hc⟩ := hall j hj
    have e : (clp I (i + 1)).getD 0 = (clp I (j + 1)).getD 0 := e
    rw [hb, hc] at e
    have e : b = c := e
    subst e
    rcases Nat.lt_trichotomy i j with z | z | z
    · have q := hord (j - i - 1) i b b (by omega) hb (by rw [show i + (j - i - 1) + 2 = j + 1 by omega]; exact hc)
      exact (cOrd_irr q).elim
    · exact z
    · have q := hord (i - j - 1) j b b (by omega) hc (by rw [show j + (i - j - 1) + 2 = i + 1 by omega]; exact hb)
      exact (cOrd_irr q).elim
/-- the item j waits at the place p, not yet late -/
def pend (I : Nat → Nat → Int32) (p j : Nat) : Bool := decide (0 < I 10 j ∧ I 11 j = nI p ∧ I 13 j = 0)
theorem pend_eq {I I' : Nat → Nat → Int32} {p j : Nat} (h1 : I' 10 j = I 10 j) (h2 : I' 11 j = I 11 j) (h3 : I' 13 j = I 13 j) : pend I' p j = pend I p j := by
  unfold pend
  rw [h1, h2, h3]
def RI (I : Nat → Nat → Int32) (L : Nat → Nat → Int64) (S : Nat → Int32) (m nr nf na : Nat) (cn bg lt wi fw : Nat → Nat) : Prop :=
  (S 1 = nI nr ∧ nr ≤ 40) ∧ (S 24 = nI nf ∧ (∀ z, z < nf → I 25 z = nI (fw z) ∧ 1 ≤ fw z ∧ fw z ≤ nr) ∧ ∀ z y, z < nf → y < nf → fw z = fw y → z = y) ∧ (∃ nh, S 16 = nI nh) ∧ (S 18 = nI na ∧ na ≤ 400 * m) ∧ (∀ v, v ≤ 4 → I 22 v = nI (cn v) ∧ cn v ≤ m) ∧ (∀ p, p < 50 → I 20 p = nI (bg p) ∧ I 21 p = nI (lt p) ∧ bg p ≤ m ∧ lt p + many (pend I p) 200 ≤ bg p) ∧ (∀ k, 1 ≤ k → k ≤ nr → L 5 k = lN (wi k) ∧ wi k ≤ 10000000) ∧ (∀ j, j < 200 → ¬ I 7 j < 0 → 0 ≤ L 9 j) ∧ ∀ j, j < 200 → 0 < I 10 j → ∃ p, p < 50 ∧ I 11 j = nI p
section RI1
variable {I I' : Nat → Nat → Int32} {L L' : Nat → Nat → Int64} {S S' : Nat → Int32} {m nr nf na : Nat} {cn bg lt wi fw : Nat → Nat}
theorem RI.cts (h : RI I L S m nr nf na cn bg lt wi fw) (hm : m ≤ 512) : Cts I bg lt := fun p hp => by
  obtain ⟨h1, h2, h3, h4⟩ := h.2.2.2.2.2.1 p hp
  exact ⟨h1, h2, by omega, by omega⟩
theorem RI.f40 (h : RI I L S m nr nf na cn bg lt wi fw) : nf ≤ 40 := by
  have := inj_le (nr + 1) nf fw (fun z hz => by have := (h.2.1.2.1 z hz).2; omega) h.2.1.2.2
  have k : nf ≤ nr := by
    have q := inj_le nr nf (fun z => fw z - 1) (fun z hz => by
      show fw z - 1 < nr
      have := (h.2.1.2.1 z hz).2; omega) (fun z y hz hy e => by
      have e : fw z - 1 = fw y - 1 := e
      have h1 := (h.2.1.2.1 z hz).2
      have h2 := (h.2.1.2.1 y hy).2
      exact h.2.1.2.2 z y hz hy (by omega))
    exact q
  have := h.1.2
  omega
theorem RI.room (h : RI I L S m nr nf na cn bg lt wi fw) : ∀ k, 1 ≤ k → k ≤ nr → (¬ ∃ z, z < nf ∧ I 25 z = nI k) → nf < 40 := fun k h1 h2 hno => by
  have := inj_miss (f := fw) (n := nf) h1 h2 (fun z hz => (h.2.1.2.1 z hz).2) h.2.1.2.2 (fun z hz e => hno ⟨z, hz, by rw [(h.2.1.2.1 z hz).1, e]⟩)
  have := h.1.2
  omega
/-- one call more -/
theorem RI.more (h : RI I L S m nr nf na cn bg lt wi fw) (hS : S' 1 = S 1 ∧ S' 24 = S 24 ∧ S' 18 = S 18 ∧ ∃ nh, S' 16 = nI nh) (h25 : I' 25 = I 25) (h22 : I' 22 = I 22) (h20 : I' 20 = I 20) (h21 : I' 21 = I 21) (h5 : L' 5 = L 5) (hp : ∀ p, p < 50 → many (pend I' p) 200 ≤ many (pend I p) 200) (h7 : ∀ j, j < 200 → ¬ I' 7 j < 0 → 0 ≤ L' 9 j) (h10 : ∀ j, j < 200 → 0 < I' 10 j → ∃ p, p < 50 ∧ I' 11 j = nI p) : RI I' L' S' (m + 1) nr nf na cn bg lt wi fw := by
  obtain ⟨g1, g2, g3, g4, g5, g6, g7, g8, g9⟩ := h
  refine ⟨⟨by rw [hS.1]; exact g1.1, g1.2⟩, ⟨by rw [hS.2.1]; exact g2.1, fun z hz => by rw [h25]; exact g2.2.1 z hz, g2.2.2⟩, hS.2.2.2, ⟨by rw [hS.2.2.1]; exact g4.1, by omega⟩, fun v hv => by rw [h22]; exact ⟨(g5 v hv).1, by have := (g5 v hv).2; omega⟩, fun p hp5 => ?_, fun k k1 k2 => by rw [h5]; exact g7 k k1 k2, h7, h10⟩
  obtain ⟨q1, q2, q3, q4⟩ := g6 p hp5
  rw [h20, h21]
  exact ⟨q1, q2, by omega, by have := hp p hp5; omega⟩
theorem RI.s0 (h : RI I L S m nr nf na cn bg lt wi fw) (x : Int32) : RI I L (va_up S 0 x) (m + 1) nr nf na cn bg lt wi fw :=
  h.more ⟨va_up_ne _ _ (by decide), va_up_ne _ _ (by decide), va_up_ne _ _ (by decide), by rw [va_up_ne _ _ (by decide)]; exact h.2.2.1⟩ rfl rfl rfl rfl rfl (fun _ _ => Nat.le_refl _) h.2.2.2.2.2.2.2.1 h.2.2.2.2.2.2.2.2
end RI1
