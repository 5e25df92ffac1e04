/-! THE REFERENCE's STATE: a tick keeps what is true of it -/
def TI (I : Nat → Nat → Int32) (L : Nat → Nat → Int64) (bg lt : Nat → Nat) (s : rSt) : Prop := (∀ k, k ≠ 13 → k ≠ 14 → k ≠ 21 → s.1 k = I k) ∧ (∀ k, k ≠ 19 → s.2.1 k = L k) ∧ ∀ p, p < 50 → s.1 21 p = nI (lt p) ∧ lt p + many (pend s.1 p) 200 ≤ bg p
theorem TI.late {I : Nat → Nat → Int32} {L : Nat → Nat → Int64} {bg lt : Nat → Nat} {s : rSt} {t : Int64} {i : Nat} (h : TI I L bg lt s) (hi : i < 200) (hat : ∀ j, j < 200 → 0 < I 10 j → ∃ p, p < 50 ∧ I 11 j = nI p) : ∃ lt2, TI I L bg lt2 (rLate t i s) := by
  unfold rLate
  by_cases hc : 0 < s.1 10 i ∧ s.2.1 12 i < t ∧ s.1 13 i = 0
  · rw [if_pos hc]
    have h10 : s.1 10 = I 10 := h.1 10 (by decide) (by decide) (by decide)
    have h11 : s.1 11 = I 11 := h.1 11 (by decide) (by decide) (by decide)
    obtain ⟨p, hp, ep⟩ := hat i hi (by rw [← h10]; exact hc.1)
    have eP : (s.1 11 i).toNatClampNeg = p := by rw [h11, ep]; exact nI_clamp (by omega)
    rw [eP]
    have hs21 := h.2.2 p hp
    refine ⟨va_up lt p (lt p + 1), fun k k1 k2 k3 => ?_, fun k k1 => ?_, fun p' hp' => ?_⟩
    · show up2 (up2 s.1 13 i 1) 21 p (s.1 21 p + 1) k = I k
      rw [up2_f _ _ _ k3, up2_f _ _ _ k1]; exact h.1 k k1 k2 k3
    · show tellL s.1 s.2.1 i s.2.2 1 k = L k
      rw [tellL_f _ _ _ _ _ k1]; exact h.2.1 k k1
    · show up2 (up2 s.1 13 i 1) 21 p (s.1 21 p + 1) 21 p' = nI (va_up lt p (lt p + 1) p') ∧ va_up lt p (lt p + 1) p' + many (pend (up2 (up2 s.1 13 i 1) 21 p (s.1 21 p + 1)) p') 200 ≤ bg p'
      have e : ∀ k, k ≠ 13 → k ≠ 21 → up2 (up2 s.1 13 i 1) 21 p (s.1 21 p + 1) k = s.1 k := fun k k1 k2 => by rw [up2_f _ _ _ k2, up2_f _ _ _ k1]
      have hne : ∀ j, j < 200 → j ≠ i → pend s.1 p' j = pend (up2 (up2 s.1 13 i 1) 21 p (s.1 21 p + 1)) p' j := fun j _ hj => (pend_eq (by rw [e 10 (by decide) (by decide)]) (by rw [e 11 (by decide) (by decide)]) (by rw [up2_f _ _ _ (by decide), up2_j _ _ _ hj])).symm
      have hoff : pend (up2 (up2 s.1 13 i 1) 21 p (s.1 21 p + 1)) p' i = false := decide_eq_false (fun z => by
        have := z.2.2
        rw [up2_f _ _ _ (by decide), up2_s] at this
        exact absurd this (by decide))
      have hb := h.2.2 p' hp'
      by_cases z : p' = p
      · subst z
        have hon : pend s.1 p' i = true := decide_eq_true ⟨hc.1, by rw [h11, ep], hc.2.2⟩
        have hm := many_off 200 hi hne hon hoff
        refine ⟨?_, ?_⟩
        · rw [up2_s, va_up_self, hb.1, nI_1]
        · rw [va_up_self]; omega
      · have hm := many_dn 200 hi hne hoff
        rw [up2_j _ _ _ z, up2_f _ _ _ (by decide), va_up_ne _ _ z]
        exact ⟨hb.1, by omega⟩
  · rw [if_neg hc]; exact ⟨lt, h⟩
theorem TI.lost {I : Nat → Nat → Int32} {L : Nat → Nat → Int64} {bg lt : Nat → Nat} {s : rSt} {t : Int64} {i : Nat} (h : TI I L bg lt s) : TI I L bg lt (rLost t i s) := by
  unfold rLost
  by_cases hc : 0 < s.1 10 i ∧ s.2.1 12 i + 864000 < t ∧ s.1 14 i = 0
  · rw [if_pos hc]
    have e : ∀ k, k ≠ 14 → up2 s.1 14 i 1 k = s.1 k := fun k hk => up2_f _ _ _ hk
    refine ⟨fun k k1 k2 k3 => ?_, fun k k1 => ?_, fun p hp => ?_⟩
    · show up2 s.1 14 i 1 k = I k
      rw [e k k2]; exact h.1 k k1 k2 k3
    · show tellL s.1 s.2.1 i s.2.2 2 k = L k
      rw [tellL_f _ _ _ _ _ k1]; exact h.2.1 k k1
    · show up2 s.1 14 i 1 21 p = nI (lt p) ∧ lt p + many (pend (up2 s.1 14 i 1) p) 200 ≤ bg p
      rw [e 21 (by decide), many_eq (P := pend (up2 s.1 14 i 1) p) (Q := pend s.1 p) 200 (fun j _ => pend_eq (by rw [e 10 (by decide)]) (by rw [e 11 (by decide)]) (by rw [e 13 (by decide)]))]
      exact h.2.2 p hp
  · rw [if_neg hc]; exact h
theorem TI.tk {I : Nat → Nat → Int32} {L : Nat → Nat → Int64} {bg lt : Nat → Nat} {s : rSt} {t : Int64} (h : TI I L bg lt s) (hat : ∀ j, j < 200 → 0 < I 10 j → ∃ p, p < 50 ∧ I 11 j = nI p) : ∀ i, i ≤ 200 → ∃ lt2, TI I L bg lt2 (rTk t s i)
  | 0, _ => ⟨lt, h⟩
  | i + 1, hi => by
    obtain ⟨l1, h1⟩ := TI.tk (t := t) h hat i (by omega)
    obtain ⟨l2, h2⟩ := h1.late (t := t) (i := i) (by omega) hat
    exact ⟨l2, h2.lost⟩
theorem RI.tick {I : Nat → Nat → Int32} {L : Nat → Nat → Int64} {S : Nat → Int32} {m nr nf na : Nat} {cn bg lt wi fw : Nat → Nat} (h : RI I L S m nr nf na cn bg lt wi fw) (t : Int64) : ∃ lt2, RI (rTk t (I, L, na) 200).1 (rTk t (I, L, na) 200).2.1 (va_up (va_up S 0 0) 18 (nI (rTk t (I, L, na) 200).2.2)) (m + 1) nr nf (rTk t (I, L, na) 200).2.2 cn bg lt2 wi fw := by
  have hk := rTk_k t (I, L, na) 200
  obtain ⟨g1, g2, g3, g4, g5, g6, g7, g8, g9⟩ := h
  obtain ⟨lt2, hT⟩ := TI.tk (I := I) (L := L) (bg := bg) (lt := lt) (s := (I, L, na)) (t := t) ⟨fun _ _ _ _ => rfl, fun _ _ => rfl, fun p hp => ⟨(g6 p hp).2.1, (g6 p hp).2.2.2⟩⟩ g9 200 (Nat.le_refl _)
  have e : ∀ k, k ≠ 13 → k ≠ 14 → k ≠ 21 → (rTk t (I, L, na) 200).1 k = I k := hT.1
  refine ⟨lt2, ⟨by rw [va_up_ne _ _ (by decide), va_up_ne _ _ (by decide)]; exact g1.1, g1.2⟩, ⟨by rw [va_up_ne _ _ (by decide), va_up_ne _ _ (by decide)]; exact g2.1, fun z hz => by rw [e 25 (by decide) (by decide) (by decide)]; exact g2.2.1 z hz, g2.2.2⟩, by rw [va_up_ne _ _ (by decide), va_up_ne _ _ (by decide)]; exact g3, ⟨va_up_self _ _ _, by
      have h1 := hk.2.2.2
      have h2 : (rTk t (I, L, na) 200).2.2 ≤ na + 2 * 200 := h1
      omega⟩, fun v hv => by rw [e 22 (by decide) (by decide) (by decide)]; exact ⟨(g5 v hv).1, by have := (g5 v hv).2; omega⟩, fun p hp => ?_, fun k k1 k2 => by rw [hT.2.1 5 (by decide)]; exact g7 k k1 k2, fun j hj => by rw [e 7 (by decide) (by decide) (by decide), hT.2.1 9 (by decide)]; exact g8 j hj, fun j hj => by rw [e 10 (by decide) (by decide) (by decide), e 11 (by decide) (by decide) (by decide)]; exact g9 j hj⟩
  rw [e 20 (by decide) (by decide) (by decide)]
  exact ⟨(g6 p hp).1, (hT.2.2 p hp).1, by have := (g6 p hp).2.2.1; omega, (hT.2.2 p hp).2⟩
