/-! THE REFERENCE's STATE: each call keeps what is true of it -/
theorem pend_dn {I I' : Nat → Nat → Int32} {j : Nat} (hj : j < 200) (hne : ∀ i, i ≠ j → I' 10 i = I 10 i ∧ I' 11 i = I 11 i ∧ I' 13 i = I 13 i) (h0 : ¬ 0 < I' 10 j) (p : Nat) : many (pend I' p) 200 ≤ many (pend I p) 200 := by
  refine many_dn (j := j) 200 hj (fun i _ hi => ?_) ?_
  · obtain ⟨h1, h2, h3⟩ := hne i hi
    exact (pend_eq h1 h2 h3).symm
  · exact decide_eq_false (fun z => h0 z.1)
theorem pend_up {I I' : Nat → Nat → Int32} {j : Nat} (hj : j < 200) (hne : ∀ i, i ≠ j → I' 10 i = I 10 i ∧ I' 11 i = I 11 i ∧ I' 13 i = I 13 i) (p : Nat) : many (pend I' p) 200 ≤ many (pend I p) 200 + 1 := by
  refine many_up (j := j) 200 hj (fun i _ hi => ?_)
  obtain ⟨h1, h2, h3⟩ := hne i hi
  exact (pend_eq h1 h2 h3).symm
theorem rEnd_j (I : Nat → Nat → Int32) (j : Nat) : rEnd I j 10 j = 0 ∧ rEnd I j 13 j = 0 ∧ rEnd I j 14 j = 0 := by
  refine ⟨?_, ?_, ?_⟩
  · show up2 (up2 (up2 I 10 j 0) 13 j 0) 14 j 0 10 j = 0
    rw [up2_f _ _ _ (by decide), up2_f _ _ _ (by decide), up2_s]
  · show up2 (up2 (up2 I 10 j 0) 13 j 0) 14 j 0 13 j = 0
    rw [up2_f _ _ _ (by decide), up2_s]
  · show up2 (up2 (up2 I 10 j 0) 13 j 0) 14 j 0 14 j = 0
    rw [up2_s]
theorem rEnd_ne (I : Nat → Nat → Int32) (j : Nat) {i : Nat} (h : i ≠ j) (k : Nat) : rEnd I j k i = I k i := by
  show up2 (up2 (up2 I 10 j 0) 13 j 0) 14 j 0 k i = I k i
  by_cases h1 : k = 14
  · subst h1; rw [up2_j _ _ _ h, up2_f _ _ _ (by decide), up2_f _ _ _ (by decide)]
  · rw [up2_f _ _ _ h1]
    by_cases h2 : k = 13
    · subst h2; rw [up2_j _ _ _ h, up2_f _ _ _ (by decide)]
    · rw [up2_f _ _ _ h2]
      by_cases h3 : k = 10
      · subst h3; rw [up2_j _ _ _ h]
      · rw [up2_f _ _ _ h3]
theorem evL_9 (I : Nat → Nat → Int32) (L : Nat → Nat → Int64) (j : Nat) (t : Int64) : evL I L j t 9 j = t := up2_s _ _ _ _
theorem evL_9n (I : Nat → Nat → Int32) (L : Nat → Nat → Int64) (j : Nat) (t : Int64) {i : Nat} (h : i ≠ j) : evL I L j t 9 i = L 9 i := by
  show up2 (up2 L 8 j _) 9 j t 9 i = _
  rw [up2_j _ _ _ h, up2_f _ _ _ (by decide)]
section RI2
variable {I : Nat → Nat → Int32} {L : Nat → Nat → Int64} {S : Nat → Int32} {m nr nf na : Nat} {cn bg lt wi fw : Nat → Nat}
theorem RI.rule (h : RI I L S m nr nf na cn bg lt wi fw) (hn : nr < 40) {st pl sv fl : Int32} {w : Int64} (hw : 0 ≤ w ∧ w ≤ 10000000) : ∃ w0, w = lN w0 ∧ RI (up2 (up2 (up2 (up2 I 2 (nr + 1) st) 3 (nr + 1) pl) 4 (nr + 1) sv) 6 (nr + 1) fl) (up2 L 5 (nr + 1) w) (va_up (va_up S 0 0) 1 (nI (nr + 1))) (m + 1) (nr + 1) nf na cn bg lt (va_up wi (nr + 1) w0) fw := by
  obtain ⟨w0, hw0, rfl⟩ := lin_nat (n := 10000000) rfl hw
  refine ⟨w0, rfl, ?_⟩
  have e : ∀ k, k ≠ 2 → k ≠ 3 → k ≠ 4 → k ≠ 6 → (up2 (up2 (up2 (up2 I 2 (nr + 1) st) 3 (nr + 1) pl) 4 (nr + 1) sv) 6 (nr + 1) fl) k = I k := fun k h2 h3 h4 h6 => by
    rw [up2_f _ _ _ h6, up2_f _ _ _ h4, up2_f _ _ _ h3, up2_f _ _ _ h2]
  obtain ⟨g1, g2, g3, g4, g5, g6, g7, g8, g9⟩ := h
  have hp : ∀ p, pend (up2 (up2 (up2 (up2 I 2 (nr + 1) st) 3 (nr + 1) pl) 4 (nr + 1) sv) 6 (nr + 1) fl) p = pend I p := fun p => by
    funext j
    unfold pend
    rw [e 10 (by decide) (by decide) (by decide) (by decide), e 11 (by decide) (by decide) (by decide) (by decide), e 13 (by decide) (by decide) (by decide) (by decide)]
  refine ⟨⟨va_up_self _ _ _, by omega⟩, ⟨by rw [va_up_ne _ _ (by decide), va_up_ne _ _ (by decide)]; exact g2.1, fun z hz => by
      rw [e 25 (by decide) (by decide) (by decide) (by decide)]
      have := g2.2.1 z hz
      exact ⟨this.1, this.2.1, by omega⟩, g2.2.2⟩, by rw [va_up_ne _ _ (by decide), va_up_ne _ _ (by decide)]; exact g3, ⟨by rw [va_up_ne _ _ (by decide), va_up_ne _ _ (by decide)]; exact g4.1, by omega⟩, fun v hv => by
      rw [e 22 (by decide) (by decide) (by decide) (by decide)]
      exact ⟨(g5 v hv).1, by have := (g5 v hv).2; omega⟩, fun p hp5 => by
      rw [e 20 (by decide) (by decide) (by decide) (by decide), e 21 (by decide) (by decide) (by decide) (by decide), hp p]
      obtain ⟨q1, q2, q3, q4⟩ := g6 p hp5
      exact ⟨q1, q2, by omega, q4⟩, fun k k1 k2 => ?_, fun j hj => by
      rw [e 7 (by decide) (by decide) (by decide) (by decide), up2_f _ _ _ (by decide)]
      exact g8 j hj, fun j hj => by
      rw [e 10 (by decide) (by decide) (by decide) (by decide), e 11 (by decide) (by decide) (by decide) (by decide)]
      exact g9 j hj⟩
  by_cases z : k = nr + 1
  · subst z; rw [up2_s, va_up_self]; exact ⟨rfl, hw0⟩
  · rw [up2_j _ _ _ z, va_up_ne _ _ z]; exact g7 k k1 (by omega)
theorem RI.holiday (h : RI I L S m nr nf na cn bg lt wi fw) (j : Nat) (n : Nat) : RI (up2 I 15 j 1) L (va_up (va_up S 0 0) 16 (nI (n + 1))) (m + 1) nr nf na cn bg lt wi fw := by
  have e : ∀ k, k ≠ 15 → up2 I 15 j 1 k = I k := fun k hk => up2_f _ _ _ hk
  refine h.more ⟨by rw [va_up_ne _ _ (by decide), va_up_ne _ _ (by decide)], by rw [va_up_ne _ _ (by decide), va_up_ne _ _ (by decide)], by rw [va_up_ne _ _ (by decide), va_up_ne _ _ (by decide)], n + 1, va_up_self _ _ _⟩ (e 25 (by decide)) (e 22 (by decide)) (e 20 (by decide)) (e 21 (by decide)) rfl (fun p _ => ?_) (fun i hi => by rw [e 7 (by decide)]; exact h.2.2.2.2.2.2.2.1 i hi) (fun i hi => by rw [e 10 (by decide), e 11 (by decide)]; exact h.2.2.2.2.2.2.2.2 i hi)
  refine Nat.le_of_eq (many_eq 200 (fun i _ => pend_eq ?_ ?_ ?_))
  · rw [e 10 (by decide)]
  · rw [e 11 (by decide)]
  · rw [e 13 (by decide)]
theorem RI.t0 (h : RI I L S m nr nf na cn bg lt wi fw) {j : Nat} (hj : j < 200) {t : Int64} (ht : rTime I L j t) : 0 ≤ t := by
  have h1 := ht.1
  by_cases z : I 7 j < 0
  · rw [if_pos z] at h1; exact h1
  · rw [if_neg z] at h1; exact Int64.le_trans (h.2.2.2.2.2.2.2.1 j hj z) h1
theorem RI.found (h : RI I L S m nr nf na cn bg lt wi fw) {j : Nat} (hj : j < 200) {t : Int64} (ht : rTime I L j t) : RI (rEnd I j) (up2 L 9 j t) (va_up S 0 0) (m + 1) nr nf na cn bg lt wi fw := by
  have e : ∀ k, k ≠ 10 → k ≠ 13 → k ≠ 14 → rEnd I j k = I k := fun k h1 h2 h3 => rEnd_f I j ⟨h1, h2, h3⟩
  have t0 := h.t0 hj ht
  refine h.more ⟨va_up_ne _ _ (by decide), va_up_ne _ _ (by decide), va_up_ne _ _ (by decide), by rw [va_up_ne _ _ (by decide)]; exact h.2.2.1⟩ (e 25 (by decide) (by decide) (by decide)) (e 22 (by decide) (by decide) (by decide)) (e 20 (by decide) (by decide) (by decide)) (e 21 (by decide) (by decide) (by decide)) (up2_f _ _ _ (by decide)) (fun p _ => pend_dn hj (fun i hi => ⟨rEnd_ne I j hi _, rEnd_ne I j hi _, rEnd_ne I j hi _⟩) (by rw [(rEnd_j I j).1]; decide) p) (fun i hi hi7 => ?_) (fun i hi hi10 => ?_)
  · by_cases z : i = j
    · subst z; rw [up2_s]; exact t0
    · rw [up2_j _ _ _ z]; rw [e 7 (by decide) (by decide) (by decide)] at hi7; exact h.2.2.2.2.2.2.2.1 i hi hi7
  · by_cases z : i = j
    · subst z; rw [(rEnd_j I i).1] at hi10; exact absurd hi10 (by decide)
    · rw [rEnd_ne I j z] at hi10 ⊢; exact h.2.2.2.2.2.2.2.2 i hi hi10
/-- what an event leaves of an item, before a row begins -/
theorem RI.ev (h : RI I L S m nr nf na cn bg lt wi fw) {j : Nat} (hj : j < 200) {tt : Nat} (htt : tt ≤ 1000000000) (x : Int32) : RI (up2 (rEnd I j) 7 j x) (evL I L j (lN tt)) (va_up S 0 0) (m + 1) nr nf na cn bg lt wi fw := by
  have e : ∀ k, k ≠ 10 → k ≠ 13 → k ≠ 14 → k ≠ 7 → up2 (rEnd I j) 7 j x k = I k := fun k h1 h2 h3 h4 => by rw [up2_f _ _ _ h4]; exact rEnd_f I j ⟨h1, h2, h3⟩
  have e7 : ∀ k, k ≠ 7 → up2 (rEnd I j) 7 j x k = rEnd I j k := fun k hk => up2_f _ _ _ hk
  have t0 : (0 : Int64) ≤ lN tt := (lnat_in (hi := 1000000000) htt (by decide) rfl).1
  refine h.more ⟨va_up_ne _ _ (by decide), va_up_ne _ _ (by decide), va_up_ne _ _ (by decide), by rw [va_up_ne _ _ (by decide)]; exact h.2.2.1⟩ (e 25 (by decide) (by decide) (by decide) (by decide)) (e 22 (by decide) (by decide) (by decide) (by decide)) (e 20 (by decide) (by decide) (by decide) (by decide)) (e 21 (by decide) (by decide) (by decide) (by decide)) (evL_f I L j _ ⟨by decide, by decide⟩) (fun p _ => pend_dn hj (fun i hi => ⟨by rw [e7 _ (by decide)]; exact rEnd_ne I j hi _, by rw [e7 _ (by decide)]; exact rEnd_ne I j hi _, by rw [e7 _ (by decide)]; exact rEnd_ne I j hi _⟩) (by rw [e7 _ (by decide), (rEnd_j I j).1]; decide) p) (fun i hi hi7 => ?_) (fun i hi hi10 => ?_)
  · by_cases z : i = j
    · subst z; rw [evL_9]; exact t0
    · rw [evL_9n I L j _ z]
      rw [up2_j _ _ _ z, rEnd_ne I j z] at hi7
      exact h.2.2.2.2.2.2.2.1 i hi hi7
  · rw [e7 _ (by decide)] at hi10 ⊢
    by_cases z : i = j
    · subst z; rw [(rEnd_j I i).1] at hi10; exact absurd hi10 (by decide)
    · rw [rEnd_ne I j z] at hi10; rw [rEnd_ne I j z]; exact h.2.2.2.2.2.2.2.2 i hi hi10
end RI2
