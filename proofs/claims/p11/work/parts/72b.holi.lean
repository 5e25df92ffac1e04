/-! HOLIDAYS: the class's sorted list and the reference's array say the same -/
def CrH (X : XV) (Y : RV) : Prop := Y.S 16 = nI X.ch ∧ (∃ fn : Nat → Nat, (∀ i, i < X.ch → X.fh i = lN (fn i) ∧ fn i ≤ 20000) ∧ ∀ i j, i < j → j < X.ch → fn i < fn j) ∧ ∀ j, j ≤ 20000 → (¬ Y.I 15 j = 0 ↔ ∃ i, i < X.ch ∧ X.fh i = lN j)
theorem CrH.eq {X X' : XV} {Y Y' : RV} (h : CrH X Y) (h1 : X'.ch = X.ch) (h2 : X'.fh = X.fh) (h3 : Y'.S 16 = Y.S 16) (h4 : Y'.I 15 = Y.I 15) : CrH X' Y' := by
  unfold CrH at h ⊢
  rw [h1, h2, h3, h4]
  exact h
theorem h_hol {X X' : XV} {Y Y' : RV} {r1 r2 : Int32} {t : Int64} (hc : X.ch ≤ 100) (h : CrH X Y) (h1 : oXhol t X r1 X') (h2 : oMhol t Y r2 Y') : CrH X' Y' ∧ r1 = r2 := by
  obtain ⟨hS, ⟨fn, hfn, hso⟩, hI⟩ := h
  have hs0 : CrH X Y.s0 := CrH.eq (Y := Y) ⟨hS, ⟨fn, hfn, hso⟩, hI⟩ rfl rfl (su16 Y.S 0 0 (by decide)) rfl
  rcases h2 with ⟨n2, rfl, rfl⟩ | ⟨j, n, hj, rfl, hn, h2⟩
  · rcases h1 with ⟨_, rfl, rfl⟩ | ⟨y1, _⟩
    · exact ⟨hs0, rfl⟩
    · obtain ⟨j, hj, e⟩ := lin_nat (n := 20000) rfl y1
      exact absurd e (n2 j hj)
  have hin : (0 : Int64) ≤ lN j ∧ lN j ≤ 20000 := lnat_in hj (by decide) rfl
  have hnn : nI n = nI X.ch := hn.symm.trans hS
  have e100 : nI X.ch = 100 ↔ X.ch = 100 := nI_eq (b := 100) (by omega) (by decide)
  rcases h1 with ⟨n1, _⟩ | ⟨_, (⟨q1, rfl, rfl⟩ | ⟨q1, q2, rfl, rfl⟩ | ⟨q1, q2, rfl, f', q3, rfl⟩)⟩
  · exact absurd hin n1
  · rcases h2 with ⟨_, rfl, rfl⟩ | ⟨z, _⟩ | ⟨z, _⟩
    · exact ⟨hs0, rfl⟩
    · exact absurd z ((hI j hj).mpr q1)
    · exact absurd z ((hI j hj).mpr q1)
  · rcases h2 with ⟨z, _⟩ | ⟨_, _, rfl, rfl⟩ | ⟨_, z, _⟩
    · exact absurd ((hI j hj).mp z) q1
    · exact ⟨hs0, rfl⟩
    · rw [hnn, e100] at z; omega
  · rcases h2 with ⟨z, _⟩ | ⟨_, z, _⟩ | ⟨_, _, rfl, rfl⟩
    · exact absurd ((hI j hj).mp z) q1
    · rw [hnn, e100] at z; omega
    · refine ⟨⟨?_, ?_, ?_⟩, rfl⟩
      · show va_up (va_up Y.S 0 0) 16 (nI (n + 1)) 16 = nI (X.ch + 1)
        rw [va_up_self, ← nI_1, ← nI_1, hnn]
      · obtain ⟨p, hp, g1, g2, g3, g4⟩ := q3
        have lo : ∀ i, i < p → fn i < j := fun i hi => by
          have hl : fn (p - 1) < j := by
            rcases g4 with z | z
            · omega
            · have e := hfn (p - 1) (by omega)
              rw [e.1, lN_le (by have := e.2; omega) (by omega)] at z
              rcases Nat.lt_or_ge (fn (p - 1)) j with y | y
              · exact y
              · exact absurd ⟨p - 1, by omega, by rw [e.1, show fn (p - 1) = j by omega]⟩ q1
          rcases Nat.lt_or_ge i (p - 1) with y | y
          · have := hso i (p - 1) y (by omega); omega
          · rw [show i = p - 1 by omega]; exact hl
        have up : ∀ i, p ≤ i → i < X.ch → j < fn i := fun i h1 h2 => by
          have e := hfn i h2
          have := (g3 i h1 h2).2
          rw [e.1, lN_lt (by omega) (by have := e.2; omega)] at this
          exact this
        refine ⟨fun i => if i < p then fn i else if i = p then j else fn (i - 1), fun i hi => ?_, fun i k hik hk => ?_⟩
        · have hi : i < X.ch + 1 := hi
          show f' i = lN (if i < p then fn i else if i = p then j else fn (i - 1)) ∧ (if i < p then fn i else if i = p then j else fn (i - 1)) ≤ 20000
          by_cases z : i < p
          · rw [if_pos z, g1 i z]; exact hfn i (by omega)
          · rw [if_neg z]
            by_cases y : i = p
            · rw [if_pos y, y]; exact ⟨g2, hj⟩
            · rw [if_neg y]
              have := (g3 (i - 1) (by omega) (by omega)).1
              rw [show i - 1 + 1 = i by omega] at this
              rw [this]; exact hfn (i - 1) (by omega)
        · have hk : k < X.ch + 1 := hk
          show (if i < p then fn i else if i = p then j else fn (i - 1)) < (if k < p then fn k else if k = p then j else fn (k - 1))
          by_cases z : i < p
          · rw [if_pos z]
            by_cases y : k < p
            · rw [if_pos y]; exact hso i k hik (by omega)
            · rw [if_neg y]
              by_cases w : k = p
              · rw [if_pos w]; exact lo i z
              · rw [if_neg w]; have := lo i z; have := up (k - 1) (by omega) (by omega); omega
          · rw [if_neg z]
            by_cases y : i = p
            · rw [if_pos y, if_neg (by omega), if_neg (by omega)]; exact up (k - 1) (by omega) (by omega)
            · rw [if_neg y, if_neg (by omega), if_neg (by omega)]; exact hso (i - 1) (k - 1) (by omega) (by omega)
      · intro j' hj'
        show ¬ up2 Y.I 15 j 1 15 j' = 0 ↔ ∃ i, i < X.ch + 1 ∧ f' i = lN j'
        obtain ⟨p, hp, g1, g2, g3, g4⟩ := q3
        by_cases z : j' = j
        · rw [z, up2_s]
          exact ⟨fun _ => ⟨p, by omega, g2⟩, fun _ => by decide⟩
        · rw [up2_j _ _ _ z, hI j' hj']
          constructor
          · rintro ⟨i, hi, e⟩
            rcases Nat.lt_or_ge i p with y | y
            · exact ⟨i, by omega, by rw [g1 i y]; exact e⟩
            · exact ⟨i + 1, by omega, by rw [(g3 i y hi).1]; exact e⟩
          · rintro ⟨i, hi, e⟩
            rcases Nat.lt_trichotomy i p with y | y | y
            · exact ⟨i, by omega, by rw [← g1 i y]; exact e⟩
            · rw [y, g2] at e
              exact absurd ((lN_eq (by omega) (by omega)).mp e).symm z
            · have := (g3 (i - 1) (by omega) (by omega)).1
              rw [show i - 1 + 1 = i by omega] at this
              exact ⟨i - 1, by omega, by rw [← this]; exact e⟩
