/-! THE CLASS's STATE: what stays true, whatever is called -/
def CI (m kr kf kt c cf ct ch cd : Nat) (R : Nat → rowS) (fr : Nat → Nat) (F : Nat → Nat → Int32) (fb fl : Nat → Int32) (v : Nat → itS) : Prop :=
  (c ≤ 40 ∧ kr ≤ 5) ∧ (kf ≤ 5 ∧ (∀ i, i < cf → fr i < c) ∧ (∀ i j, i < cf → j < cf → fr i = fr j → i = j) ∧ ∀ i, i < cf → ¬ (R (fr i)).2.2.2.2.2.2 = 0) ∧ ch ≤ 100 ∧ cd ≤ m ∧ tOk (v, fl, ct, F, kt) ∧ ∀ p, p < 50 → ∃ nb nl, fb p = nI nb ∧ fl p = nI nl ∧ nb ≤ m ∧ nl ≤ 200 * m
theorem xLate_fl {ck : Int64} {i B : Nat} {s : tS} (h : ∀ p, p < 50 → ∃ nl, s.2.1 p = nI nl ∧ nl ≤ B) : ∀ p, p < 50 → ∃ nl, (xLate ck i s).2.1 p = nI nl ∧ nl ≤ B + 1 := fun p hp => by
  obtain ⟨nl, h1, h2⟩ := h p hp
  unfold xLate
  by_cases z : isLa (s.1 i) ck
  · rw [if_pos z]
    show ∃ nl, va_up s.2.1 (s.1 i).2.2.2.2.1.toNatClampNeg (s.2.1 (s.1 i).2.2.2.2.1.toNatClampNeg + 1) p = nI nl ∧ nl ≤ B + 1
    by_cases y : p = (s.1 i).2.2.2.2.1.toNatClampNeg
    · rw [← y, va_up_self, h1, nI_1]; exact ⟨_, rfl, by omega⟩
    · rw [va_up_ne _ _ y]; exact ⟨nl, h1, by omega⟩
  · rw [if_neg z]; exact ⟨nl, h1, by omega⟩
theorem xLost_fl {ck : Int64} {i : Nat} {s : tS} : (xLost ck i s).2.1 = s.2.1 := by
  unfold xLost
  by_cases z : isLo (s.1 i) ck
  · rw [if_pos z]
  · rw [if_neg z]
theorem xTk_fl {ck : Int64} {B : Nat} {s : tS} (h : ∀ p, p < 50 → ∃ nl, s.2.1 p = nI nl ∧ nl ≤ B) : ∀ i p, p < 50 → ∃ nl, (xTk ck s i).2.1 p = nI nl ∧ nl ≤ B + i
  | 0 => h
  | i + 1 => fun p hp => by
    have h1 := xLate_fl (ck := ck) (i := i) (xTk_fl (ck := ck) h i) p hp
    show ∃ nl, (xLost ck i (xLate ck i (xTk ck s i))).2.1 p = nI nl ∧ nl ≤ B + (i + 1)
    rw [xLost_fl]; exact h1
theorem tOk_eta {s : tS} (h : tOk s) : tOk (s.1, s.2.1, s.2.2.1, s.2.2.2.1, s.2.2.2.2) := h
section CI
variable {m kr kf kt c cf ct ch cd : Nat} {R : Nat → rowS} {fr : Nat → Nat} {F : Nat → Nat → Int32} {fb fl : Nat → Int32} {v : Nat → itS}
theorem CI.more (h : CI m kr kf kt c cf ct ch cd R fr F fb fl v) : CI (m + 1) kr kf kt c cf ct ch cd R fr F fb fl v := by
  obtain ⟨h1, h2, h3, h4, h5, h6⟩ := h
  refine ⟨h1, h2, h3, by omega, h5, fun p hp => ?_⟩
  obtain ⟨nb, nl, q1, q2, q3, q4⟩ := h6 p hp
  exact ⟨nb, nl, q1, q2, by omega, by omega⟩
theorem CI.rule (h : CI m kr kf kt c cf ct ch cd R fr F fb fl v) (hc : c < 40) (w : rowS) : CI (m + 1) (lvl c kr) kf kt (c + 1) cf ct ch cd (va_up R c w) fr F fb fl v := by
  obtain ⟨h1, h2, h3, h4, h5, h6⟩ := h.more
  refine ⟨⟨by omega, lvl_le h1.2 hc (by rw [cp_5]; decide)⟩, ⟨h2.1, fun i hi => Nat.lt_succ_of_lt (h2.2.1 i hi), h2.2.2.1, fun i hi => ?_⟩, h3, h4, h5, h6⟩
  rw [va_up_ne _ _ (by have := h2.2.1 i hi; omega)]
  exact h2.2.2.2 i hi
theorem CI.hol (h : CI m kr kf kt c cf ct ch cd R fr F fb fl v) (hc : ch < 100) : CI (m + 1) kr kf kt c cf ct (ch + 1) cd R fr F fb fl v := by
  obtain ⟨h1, h2, h3, h4, h5, h6⟩ := h.more
  exact ⟨h1, h2, hc, h4, h5, h6⟩
theorem CI.itm (h : CI m kr kf kt c cf ct ch cd R fr F fb fl v) (j : Nat) {w : itS} (hw : ∃ p, p < 50 ∧ w.2.2.2.2.1 = nI p) : CI (m + 1) kr kf kt c cf ct ch cd R fr F fb fl (va_up v j w) := by
  obtain ⟨h1, h2, h3, h4, h5, h6⟩ := h.more
  refine ⟨h1, h2, h3, h4, ⟨fun i hi => ?_, h5.2⟩, h6⟩
  show ∃ p, p < 50 ∧ (va_up v j w i).2.2.2.2.1 = nI p
  by_cases z : i = j
  · subst z; rw [va_up_self]; exact hw
  · rw [va_up_ne _ _ z]; exact h5.1 i hi
theorem CI.pl (h : CI m kr kf kt c cf ct ch cd R fr F fb fl v) {j : Nat} (hj : j < 200) : ∃ p, p < 50 ∧ (v j).2.2.2.2.1 = nI p := h.2.2.2.2.1.1 j hj
theorem CI.dlv (h : CI m kr kf kt c cf ct ch cd R fr F fb fl v) {j : Nat} {w : itS} (hw : ∃ p, p < 50 ∧ w.2.2.2.2.1 = nI p) : CI (m + 1) kr kf kt c cf ct ch (cd + 1) R fr F fb fl (va_up v j w) := by
  obtain ⟨h1, h2, h3, h4, h5, h6⟩ := h.itm j hw
  have := h.2.2.2.1
  exact ⟨h1, h2, h3, by omega, h5, h6⟩
theorem CI.fail (h : CI m kr kf kt c cf ct ch cd R fr F fb fl v) {j : Nat} {w : itS} (hw : ∃ p, p < 50 ∧ w.2.2.2.2.1 = nI p) {k : Nat} (hk : k < c) (h0 : (R k).2.2.2.2.2.2 = 0) : CI (m + 1) kr (lvl cf kf) kt c (cf + 1) ct ch cd (va_up R k (rowF (R k))) (va_up fr cf k) F fb fl (va_up v j w) := by
  obtain ⟨h1, h2, h3, h4, h5, h6⟩ := h.itm j hw
  have hne : ∀ i, i < cf → fr i ≠ k := fun i hi z => h2.2.2.2 i hi (by rw [z]; exact h0)
  have hr : ∀ i, i < cf + 1 → va_up fr cf k i < c := fun i hi => by
    by_cases z : i = cf
    · subst z; rw [va_up_self]; exact hk
    · rw [va_up_ne _ _ z]; exact h2.2.1 i (by omega)
  have hi : ∀ i j, i < cf + 1 → j < cf + 1 → va_up fr cf k i = va_up fr cf k j → i = j := fun i y hi hy q => by
    by_cases y1 : i = cf
    · by_cases y2 : y = cf
      · omega
      · rw [y1, va_up_self, va_up_ne _ _ y2] at q; exact absurd q.symm (hne y (by omega))
    · by_cases y2 : y = cf
      · rw [y2, va_up_self, va_up_ne _ _ y1] at q; exact absurd q (hne i (by omega))
      · rw [va_up_ne _ _ y1, va_up_ne _ _ y2] at q; exact h2.2.2.1 i y (by omega) (by omega) q
  have hle := inj_le c (cf + 1) _ hr hi
  refine ⟨h1, ⟨lvl_le h2.1 (show cf < 40 by omega) (by rw [cp_5]; decide), hr, hi, fun i hi => ?_⟩, h3, h4, h5, h6⟩
  by_cases z : i = cf
  · subst z; rw [va_up_self, va_up_self]; show ¬ (1 : Int32) = 0; decide
  · rw [va_up_ne _ _ z, va_up_ne _ _ (hne i (by omega))]; exact h2.2.2.2 i (by omega)
theorem CI.beg (h : CI m kr kf kt c cf ct ch cd R fr F fb fl v) {j : Nat} {w : itS} (hw : ∃ p, p < 50 ∧ w.2.2.2.2.1 = nI p) (p : Nat) : CI (m + 1) kr kf kt c cf ct ch cd R fr F (va_up fb p (fb p + 1)) fl (va_up v j w) := by
  obtain ⟨h1, h2, h3, h4, h5, h6⟩ := h.itm j hw
  refine ⟨h1, h2, h3, h4, h5, fun p' hp => ?_⟩
  obtain ⟨nb, nl, q1, q2, q3, q4⟩ := h.2.2.2.2.2 p' hp
  by_cases z : p' = p
  · subst z; rw [va_up_self, q1, nI_1]; exact ⟨nb + 1, nl, rfl, q2, by omega, by omega⟩
  · rw [va_up_ne _ _ z]; exact ⟨nb, nl, q1, q2, by omega, by omega⟩
theorem CI.tick (h : CI m kr kf kt c cf ct ch cd R fr F fb fl v) (t : Int64) : CI (m + 1) kr kf ((xTk t (v, fl, ct, F, kt) 200).2.2.2.2) c cf ((xTk t (v, fl, ct, F, kt) 200).2.2.1) ch cd R fr ((xTk t (v, fl, ct, F, kt) 200).2.2.2.1) fb ((xTk t (v, fl, ct, F, kt) 200).2.1) ((xTk t (v, fl, ct, F, kt) 200).1) := by
  obtain ⟨h1, h2, h3, h4, h5, h6⟩ := h
  refine ⟨h1, h2, h3, by omega, tOk_eta (xTk_ok (ck := t) h5 200).1, fun p hp => ?_⟩
  obtain ⟨nb, nl, q1, q2, q3, q4⟩ := h6 p hp
  obtain ⟨n2, r1, r2⟩ := xTk_fl (ck := t) (B := 200 * m) (s := (v, fl, ct, F, kt)) (fun p hp => by
    obtain ⟨nb, nl, q1, q2, q3, q4⟩ := h6 p hp
    exact ⟨nl, q2, q4⟩) 200 p hp
  exact ⟨nb, n2, q1, r1, by omega, by omega⟩
end CI
