/-! THE ANSWERS OF BOTH SIDES -/
section ANS
variable {m : Nat} {X X' : XV} {Y Y' : RV} {r1 r2 : Int32} {s1 s2 : Int64}
theorem q_alarm (h : CrF X Y) {i u : Int32} (h1 : oXalarm i u X r1 X') (h2 : oMalarm i u Y r2 Y') : r1 = r2 := by
  obtain ⟨hct, hF⟩ := h.2.2.2.2.1
  rcases h1.2 with ⟨n1, rfl⟩ | ⟨j, v, hj, hv, rfl, rfl, rfl⟩
  · rcases h2.2 with ⟨_, rfl⟩ | ⟨j, v, hj, hj4, hv, e1, e2, _⟩
    · rfl
    · exact absurd ⟨e1, e2⟩ (n1 j v (by omega) hv)
  · rcases h2.2 with ⟨n2, _⟩ | ⟨j', v', hj', hj4, hv', e1, e2, rfl⟩
    · exact absurd ⟨rfl, rfl⟩ (n2 j v (by omega) (by omega) hv)
    · have ej : j = j' := (nI_eq (by omega) (by omega)).mp e1
      have ev : v = v' := (nI_eq (by omega) (by omega)).mp e2
      subst ej
      subst ev
      exact hF j v hj hv
theorem q_state (h : CrF X Y) {i : Int32} (h1 : oXstate i X r1 X') (h2 : oMstate i Y r2 Y') : r1 = r2 := by
  rcases h1.2 with ⟨n1, rfl⟩ | ⟨j, hj, rfl, rfl⟩
  · rcases h2.2 with ⟨_, rfl⟩ | ⟨j, hj, e, _⟩
    · rfl
    · exact absurd e (n1 j (by omega))
  · rcases h2.2 with ⟨n2, _⟩ | ⟨j', hj', e, rfl⟩
    · exact absurd rfl (n2 j (by omega))
    · have ej : j = j' := (nI_eq (by omega) (by omega)).mp e
      subst ej
      obtain ⟨a1, a2, a3, a4, a5, a6, a7, a8, a9, a10⟩ := h.2.2.1 j hj
      rw [a1, a7, a8]
      by_cases z : Y.I 14 j = 0 <;> by_cases y : Y.I 13 j = 0 <;> simp [z, y]
theorem q_failing (hC : X.ci m) (hR : Y.ri m) (h : CrF X Y) {i : Int32} (h1 : oXfailing i X r1 X') (h2 : oMfailing i Y r2 Y') : r1 = r2 := by
  have hcf := h.1.2.1
  have h40 := RI.f40 hR
  rcases h1.2 with ⟨n1, rfl⟩ | ⟨j, hj, rfl, rfl⟩
  · rcases h2.2 with ⟨_, rfl⟩ | ⟨j, hj, e, _⟩
    · rfl
    · exact absurd e (n1 j (by omega))
  · rcases h2.2 with ⟨n2, _⟩ | ⟨j', hj', e, rfl⟩
    · exact absurd rfl (n2 j (by omega))
    · have ej : j = j' := (nI_eq (by omega) (by omega)).mp e
      subst ej
      rw [h.1.2.2.1 j hj]
      exact (h.1.2.2.2 (X.fr j) (hC.2.1.2.1 j hj)).1.1
theorem q_share (hR : Y.ri m) (hm : m ≤ 512) (h : CrF X Y) {i sd : Int32} (h1 : oXshare i sd X r1 s1) (h2 : oMshare i sd Y s2 Y') : Y'.S 0 = r1 ∧ (r1 = 0 ∨ r1 = 1) ∧ (r1 = 0 → s1 = s2) := by
  rcases h1 with ⟨n1, rfl, rfl⟩ | ⟨y1, n1, rfl, rfl⟩ | ⟨p, nb, nl, hp, rfl, hsd, q1, q2, q3, q4, h1⟩
  · rcases h2 with ⟨_, rfl, rfl⟩ | ⟨j, hj, rfl, _⟩
    · exact ⟨va_up_self Y.S 0 0, Or.inl rfl, fun _ => rfl⟩
    · exact absurd (pl_in (by omega)) n1
  · obtain ⟨p, hp, rfl⟩ := in_pl y1
    rcases h2 with ⟨n2, _⟩ | ⟨j, hj, _, (⟨_, rfl, rfl⟩ | ⟨z, _⟩ | ⟨z, _⟩)⟩
    · exact absurd rfl (n2 p (by omega))
    · exact ⟨va_up_self Y.S 0 0, Or.inl rfl, fun _ => rfl⟩
    · exact absurd z n1
    · exact absurd z n1
  · rcases h2 with ⟨n2, _⟩ | ⟨j, hj, e, h2⟩
    · exact absurd rfl (n2 p (by omega))
    have ej : p = j := (nI_eq (by omega) (by omega)).mp e
    subst ej
    obtain ⟨c1, c2⟩ := h.2.2.2.1 p hp
    obtain ⟨d1, d2, d3, d4⟩ := hR.2.2.2.2.2.1 p hp
    have eb : nb = Y.bg p := (nI_eq (by omega) (by omega)).mp (q1.symm.trans (c1.trans d1))
    have el : nl = Y.lt p := (nI_eq (by omega) (by omega)).mp (q2.symm.trans (c2.trans d2))
    subst eb
    subst el
    rcases h2 with ⟨z, _⟩ | ⟨_, z, rfl, rfl⟩ | ⟨_, z, rfl, rfl⟩
    · exact absurd hsd z
    · rcases h1 with ⟨_, rfl⟩ | ⟨y, _⟩
      · exact ⟨va_up_self (va_up Y.S 0 0) 0 1, Or.inr rfl, fun y => absurd y (by decide)⟩
      · omega
    · rcases h1 with ⟨y, _⟩ | ⟨_, rfl, rfl⟩
      · omega
      · refine ⟨va_up_self Y.S 0 0, Or.inl rfl, fun _ => ?_⟩
        have e : ∀ n, n < 2 ^ 31 → (nI n).toInt64 = lN n := fun n hn => nI_l hn
        have g1 : Y.lt p / Nat.gcd (Y.lt p) (Y.bg p) ≤ Y.lt p := Nat.div_le_self _ _
        have g2 : Y.bg p / Nat.gcd (Y.lt p) (Y.bg p) ≤ Y.bg p := Nat.div_le_self _ _
        rw [e _ (by omega), e _ (by omega), Nat.gcd_comm (Y.lt p)]
end ANS
