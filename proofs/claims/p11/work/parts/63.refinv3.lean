/-! THE REFERENCE's STATE: events and ticks keep what is true of it -/
section RI3
variable {I : Nat → Nat → Int32} {L : Nat → Nat → Int64} {S : Nat → Int32} {m nr nf na : Nat} {cn bg lt wi fw : Nat → Nat}
/-- a part of the state that RI doesn't speak of -/
theorem RI.oth (h : RI I L S m nr nf na cn bg lt wi fw) {I' : Nat → Nat → Int32} {L' : Nat → Nat → Int64} (hI : ∀ k, k = 25 ∨ k = 22 ∨ k = 20 ∨ k = 21 ∨ k = 10 ∨ k = 11 ∨ k = 13 ∨ k = 7 → I' k = I k) (hL : L' 5 = L 5 ∧ L' 9 = L 9) : RI I' L' S m nr nf na cn bg lt wi fw := by
  obtain ⟨g1, g2, g3, g4, g5, g6, g7, g8, g9⟩ := h
  have hp : ∀ p, pend I' p = pend I p := fun p => by
    funext j
    unfold pend
    rw [hI 10 (by omega), hI 11 (by omega), hI 13 (by omega)]
  refine ⟨g1, ⟨g2.1, fun z hz => by rw [hI 25 (by omega)]; exact g2.2.1 z hz, g2.2.2⟩, g3, g4, fun v hv => by rw [hI 22 (by omega)]; exact g5 v hv, fun p hp5 => by rw [hI 20 (by omega), hI 21 (by omega), hp p]; exact g6 p hp5, fun k k1 k2 => by rw [hL.1]; exact g7 k k1 k2, fun j hj => by rw [hI 7 (by omega), hL.2]; exact g8 j hj, fun j hj => by rw [hI 10 (by omega), hI 11 (by omega)]; exact g9 j hj⟩
/-- a count of deliveries grows (the state is that of a call already counted) -/
theorem RI.dlv (h : RI I L S (m + 1) nr nf na cn bg lt wi fw) {v : Nat} (hv : cn v ≤ m) : RI (up2 I 22 v (nI (cn v + 1))) L S (m + 1) nr nf na (va_up cn v (cn v + 1)) bg lt wi fw := by
  have e : ∀ k, k ≠ 22 → up2 I 22 v (nI (cn v + 1)) k = I k := fun k hk => up2_f _ _ _ hk
  obtain ⟨g1, g2, g3, g4, g5, g6, g7, g8, g9⟩ := h
  have hp : ∀ p, pend (up2 I 22 v (nI (cn v + 1))) p = pend I p := fun p => by
    funext j
    unfold pend
    rw [e 10 (by decide), e 11 (by decide), e 13 (by decide)]
  refine ⟨g1, ⟨g2.1, fun z hz => by rw [e 25 (by decide)]; exact g2.2.1 z hz, g2.2.2⟩, g3, g4, fun u hu => ?_, fun p hp5 => by rw [e 20 (by decide), e 21 (by decide), hp p]; exact g6 p hp5, g7, fun j hj => by rw [e 7 (by decide)]; exact g8 j hj, fun j hj => by rw [e 10 (by decide), e 11 (by decide)]; exact g9 j hj⟩
  by_cases z : u = v
  · subst z; rw [up2_s, va_up_self]; exact ⟨rfl, by omega⟩
  · rw [up2_j _ _ _ z, va_up_ne _ _ z]; exact g5 u hu
/-- a row fails for the first time -/
theorem RI.fls (h : RI I L S m nr nf na cn bg lt wi fw) {k : Nat} (hk1 : 1 ≤ k) (hk2 : k ≤ nr) (hno : ¬ ∃ z, z < nf ∧ I 25 z = nI k) : RI (up2 I 25 nf (nI k)) L (va_up S 24 (nI (nf + 1))) m nr (nf + 1) na cn bg lt wi (va_up fw nf k) := by
  have e : ∀ q, q ≠ 25 → up2 I 25 nf (nI k) q = I q := fun q hq => up2_f _ _ _ hq
  obtain ⟨g1, g2, g3, g4, g5, g6, g7, g8, g9⟩ := h
  have hp : ∀ p, pend (up2 I 25 nf (nI k)) p = pend I p := fun p => by
    funext j
    unfold pend
    rw [e 10 (by decide), e 11 (by decide), e 13 (by decide)]
  have hne : ∀ z, z < nf → fw z ≠ k := fun z hz q => hno ⟨z, hz, by rw [(g2.2.1 z hz).1, q]⟩
  refine ⟨⟨by rw [va_up_ne _ _ (by decide)]; exact g1.1, g1.2⟩, ⟨va_up_self _ _ _, fun z hz => ?_, fun z y hz hy q => ?_⟩, by rw [va_up_ne _ _ (by decide)]; exact g3, ⟨by rw [va_up_ne _ _ (by decide)]; exact g4.1, g4.2⟩, fun u hu => by rw [e 22 (by decide)]; exact g5 u hu, fun p hp5 => by rw [e 20 (by decide), e 21 (by decide), hp p]; exact g6 p hp5, g7, fun j hj => by rw [e 7 (by decide)]; exact g8 j hj, fun j hj => by rw [e 10 (by decide), e 11 (by decide)]; exact g9 j hj⟩
  · by_cases y : z = nf
    · subst y; rw [up2_s, va_up_self]; exact ⟨rfl, hk1, hk2⟩
    · rw [up2_j _ _ _ y, va_up_ne _ _ y]; exact g2.2.1 z (by omega)
  · by_cases y1 : z = nf
    · by_cases y2 : y = nf
      · omega
      · rw [y1, va_up_self, va_up_ne _ _ y2] at q; exact absurd q.symm (hne y (by omega))
    · by_cases y2 : y = nf
      · rw [y2, va_up_self, va_up_ne _ _ y1] at q; exact absurd q (hne z (by omega))
      · rw [va_up_ne _ _ y1, va_up_ne _ _ y2] at q; exact g2.2.2 z y (by omega) (by omega) q
/-- a row begins (the call is already counted) -/
theorem RI.beg (h : RI I L S (m + 1) nr nf na cn bg lt wi fw) {j k p : Nat} (hj : j < 200) (hp5 : p < 50) (hbg : bg p ≤ m) : RI (up2 (up2 (up2 I 10 j (nI k)) 11 j (nI p)) 20 p (nI (bg p + 1))) L S (m + 1) nr nf na cn (va_up bg p (bg p + 1)) lt wi fw := by
  have e : ∀ q, q ≠ 10 → q ≠ 11 → q ≠ 20 → (up2 (up2 (up2 I 10 j (nI k)) 11 j (nI p)) 20 p (nI (bg p + 1))) q = I q := fun q h1 h2 h3 => by rw [up2_f _ _ _ h3, up2_f _ _ _ h2, up2_f _ _ _ h1]
  have f10 : ∀ i, i ≠ j → (up2 (up2 (up2 I 10 j (nI k)) 11 j (nI p)) 20 p (nI (bg p + 1))) 10 i = I 10 i := fun i hi => by rw [up2_f _ _ _ (by decide), up2_f _ _ _ (by decide), up2_j _ _ _ hi]
  have f11 : ∀ i, i ≠ j → (up2 (up2 (up2 I 10 j (nI k)) 11 j (nI p)) 20 p (nI (bg p + 1))) 11 i = I 11 i := fun i hi => by rw [up2_f _ _ _ (by decide), up2_j _ _ _ hi, up2_f _ _ _ (by decide)]
  have f11j : (up2 (up2 (up2 I 10 j (nI k)) 11 j (nI p)) 20 p (nI (bg p + 1))) 11 j = nI p := by rw [up2_f _ _ _ (by decide), up2_s]
  have hne : ∀ i, i ≠ j → (up2 (up2 (up2 I 10 j (nI k)) 11 j (nI p)) 20 p (nI (bg p + 1))) 10 i = I 10 i ∧ (up2 (up2 (up2 I 10 j (nI k)) 11 j (nI p)) 20 p (nI (bg p + 1))) 11 i = I 11 i ∧ (up2 (up2 (up2 I 10 j (nI k)) 11 j (nI p)) 20 p (nI (bg p + 1))) 13 i = I 13 i := fun i hi => ⟨f10 i hi, f11 i hi, by rw [e 13 (by decide) (by decide) (by decide)]⟩
  obtain ⟨g1, g2, g3, g4, g5, g6, g7, g8, g9⟩ := h
  refine ⟨g1, ⟨g2.1, fun z hz => by rw [e 25 (by decide) (by decide) (by decide)]; exact g2.2.1 z hz, g2.2.2⟩, g3, g4, fun u hu => by rw [e 22 (by decide) (by decide) (by decide)]; exact g5 u hu, fun p' hp' => ?_, g7, fun i hi => by rw [e 7 (by decide) (by decide) (by decide)]; exact g8 i hi, fun i hi hi10 => ?_⟩
  · obtain ⟨q1, q2, q3, q4⟩ := g6 p' hp'
    rw [e 21 (by decide) (by decide) (by decide)]
    by_cases z : p' = p
    · subst z
      rw [up2_s, va_up_self]
      have := pend_up hj hne p'
      exact ⟨rfl, q2, by omega, by omega⟩
    · rw [show (up2 (up2 (up2 I 10 j (nI k)) 11 j (nI p)) 20 p (nI (bg p + 1))) 20 p' = I 20 p' by rw [up2_j _ _ _ z, up2_f _ _ _ (by decide), up2_f _ _ _ (by decide)], va_up_ne _ _ z]
      have hq : many (pend (up2 (up2 (up2 I 10 j (nI k)) 11 j (nI p)) 20 p (nI (bg p + 1))) p') 200 ≤ many (pend I p') 200 := many_dn (j := j) 200 hj (fun i _ hi => by
        obtain ⟨h1, h2, h3⟩ := hne i hi
        exact (pend_eq h1 h2 h3).symm) (decide_eq_false (fun y => z (by
          have := y.2.1
          rw [f11j] at this
          exact ((nI_eq (by omega) (by omega)).mp this).symm)))
      exact ⟨q1, q2, q3, by omega⟩
  · by_cases z : i = j
    · subst z; exact ⟨p, hp5, f11j⟩
    · rw [f10 i z] at hi10; rw [f11 i z]; exact g9 i hi hi10
end RI3
