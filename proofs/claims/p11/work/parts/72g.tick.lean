/-! A TICK ON BOTH SIDES -/
theorem l2i (x : Int32) : x.toInt64.toInt32 = x := Int32.toInt32_toInt64 x
theorem alv_ne (F : Nat → Nat → Int32) (n : Nat) (f : Nat → Int32) {i : Nat} (h : i ≠ n) : va_up F n f i = F i := va_up_ne _ _ h
/-- one alarm more, on both sides -/
theorem alR.tell {ct n : Nat} {F : Nat → Nat → Int32} {I : Nat → Nat → Int32} {L : Nat → Nat → Int64} {kt i : Nat} {k : Int32} {w : itS} (h : alR ct n F (L 19)) (h10 : w.2.2.2.1 = I 10 i) (h11 : w.2.2.2.2.1 = I 11 i) (h12 : w.2.2.2.2.2.1 = L 12 i) : alR (tld ct F kt i k w).1 (n + 1) (tld ct F kt i k w).2.1 (tellL I L i n k 19) := by
  obtain ⟨h1, h2⟩ := h
  unfold tld tellL
  rcases Nat.lt_or_ge n 400 with z | z
  · have hc : ct = n := by omega
    subst hc
    rw [if_pos z, if_pos z]
    refine ⟨by show ct + 1 = min (ct + 1) 400; omega, fun j v hj hv => ?_⟩
    have hj : j < ct + 1 := hj
    show va_up F ct (alv (nI i) k w.2.2.2.1 w.2.2.2.2.1 w.2.2.2.2.2.1.toInt32) j v = _
    by_cases y : j = ct
    · subst y
      rw [va_up_self, h10, h11, h12]
      match v, hv with
      | 0, _ => rw [up2_j _ _ _ (by omega), up2_j _ _ _ (by omega), up2_j _ _ _ (by omega), up2_j _ _ _ (by omega), Nat.add_zero, up2_s, l2i]; rfl
      | 1, _ => rw [up2_j _ _ _ (by omega), up2_j _ _ _ (by omega), up2_j _ _ _ (by omega), up2_s, l2i]; rfl
      | 2, _ => rw [up2_j _ _ _ (by omega), up2_j _ _ _ (by omega), up2_s, l2i]; rfl
      | 3, _ => rw [up2_j _ _ _ (by omega), up2_s, l2i]; rfl
      | 4, _ => rw [up2_s]; rfl
    · rw [va_up_ne _ _ y, up2_j _ _ _ (by omega), up2_j _ _ _ (by omega), up2_j _ _ _ (by omega), up2_j _ _ _ (by omega), up2_j _ _ _ (by omega)]
      exact h2 j v (by omega) hv
  · rw [if_neg (by omega), if_neg (by omega)]
    exact ⟨by show ct = min (n + 1) 400; omega, h2⟩
def TR (s : tS) (u : rSt) : Prop := (∀ j, j < 200 → itR (s.1 j) u.1 u.2.1 j) ∧ (∀ p, p < 50 → s.2.1 p = u.1 21 p) ∧ alR s.2.2.1 u.2.2 s.2.2.2.1 (u.2.1 19)
theorem i10_pos {I : Nat → Nat → Int32} {i : Nat} (h : ∃ k, k ≤ 40 ∧ I 10 i = nI k) : ¬ I 10 i = 0 ↔ 0 < I 10 i := by
  obtain ⟨k, hk, e⟩ := h
  rw [e]
  constructor
  · intro z
    exact (nI_ltI (a := 0) (by decide) (by omega)).mpr (Nat.pos_of_ne_zero (fun y => z (by rw [y]; rfl)))
  · intro z y
    rw [y] at z
    exact absurd z (by decide)
theorem TR.late {s : tS} {u : rSt} {ck : Int64} {i : Nat} (h : TR s u) (hi : i < 200) : TR (xLate ck i s) (rLate ck i u) := by
  obtain ⟨h1, h2, h3⟩ := h
  have hr := h1 i hi
  have hr0 := hr
  obtain ⟨a1, a2, a3, a4, a5, a6, a7, a8, a9, a10⟩ := hr
  unfold xLate rLate
  have hc : isLa (s.1 i) ck ↔ (0 < u.1 10 i ∧ u.2.1 12 i < ck ∧ u.1 13 i = 0) := by
    show (¬ (s.1 i).2.2.2.1 = 0 ∧ (s.1 i).2.2.2.2.2.2.1 = 0 ∧ (s.1 i).2.2.2.2.2.1 < ck) ↔ _
    rw [a4, a6, a7, i10_pos a9]
    exact ⟨fun z => ⟨z.1, z.2.2, z.2.1⟩, fun z => ⟨z.1, z.2.2, z.2.1⟩⟩
  by_cases z : isLa (s.1 i) ck
  · rw [if_pos z, if_pos (hc.mp z)]
    refine ⟨fun j hj => ?_, fun p hp => ?_, h3.tell a4 a5 a6⟩
    · show itR (va_up s.1 i (itLa (s.1 i)) j) (up2 (up2 u.1 13 i 1) 21 (u.1 11 i).toNatClampNeg (u.1 21 (u.1 11 i).toNatClampNeg + 1)) (tellL u.1 u.2.1 i u.2.2 1) j
      have e : ∀ k, k ≠ 21 → k ≠ 13 → (up2 (up2 u.1 13 i 1) 21 (u.1 11 i).toNatClampNeg (u.1 21 (u.1 11 i).toNatClampNeg + 1)) k j = u.1 k j := fun k q1 q2 => by rw [up2_f _ _ _ q1, up2_f _ _ _ q2]
      have e13 : (up2 (up2 u.1 13 i 1) 21 (u.1 11 i).toNatClampNeg (u.1 21 (u.1 11 i).toNatClampNeg + 1)) 13 j = up2 u.1 13 i 1 13 j := by rw [up2_f _ _ _ (by decide)]
      have eL : ∀ k, k ≠ 19 → tellL u.1 u.2.1 i u.2.2 1 k j = u.2.1 k j := fun k hk => by rw [tellL_f _ _ _ _ _ hk]
      by_cases y : j = i
      · subst y
        unfold itR
        rw [va_up_self, e 7 (by decide) (by decide), e 10 (by decide) (by decide), e 11 (by decide) (by decide), e13, up2_s, e 14 (by decide) (by decide), eL 8 (by decide), eL 9 (by decide), eL 12 (by decide)]
        exact ⟨a1, a2, a3, a4, a5, a6, rfl, a8, a9, a10⟩
      · exact (h1 j hj).eq (va_up_ne _ _ y) (e 7 (by decide) (by decide)) (e 10 (by decide) (by decide)) (e 11 (by decide) (by decide)) (e13.trans (up2_j _ _ _ y)) (e 14 (by decide) (by decide)) (eL 8 (by decide)) (eL 9 (by decide)) (eL 12 (by decide))
    · show va_up s.2.1 (s.1 i).2.2.2.2.1.toNatClampNeg (s.2.1 (s.1 i).2.2.2.2.1.toNatClampNeg + 1) p = up2 (up2 u.1 13 i 1) 21 (u.1 11 i).toNatClampNeg (u.1 21 (u.1 11 i).toNatClampNeg + 1) 21 p
      rw [a5]
      by_cases y : p = (u.1 11 i).toNatClampNeg
      · rw [← y, va_up_self, up2_s, h2 p hp]
      · rw [va_up_ne _ _ y, up2_j _ _ _ y, up2_f _ _ _ (by decide)]; exact h2 p hp
  · rw [if_neg z, if_neg (fun y => z (hc.mpr y))]
    exact ⟨h1, h2, h3⟩
theorem lo_iff {T D : Nat} (hT : T ≤ 2000000000) (hD : D ≤ 1100000000) : (864000 : Int64) < lN T - lN D ↔ lN D + 864000 < lN T := by
  have e1 : lN D + 864000 = lN (D + 864000) := lN_add D 864000
  rw [e1, lN_lt (by omega) (by omega)]
  rcases Nat.lt_or_ge T D with z | z
  · constructor
    · intro y
      exfalso
      have h1 : lN T - lN D < 0 := by
        rw [Int64.lt_iff_toInt_lt, Int64.toInt_sub, lN_toInt (by omega), lN_toInt (by omega), Int.bmod_eq_of_le (by omega) (by omega)]
        show (T : Int) - D < 0
        omega
      exact absurd (Int64.lt_trans y h1) (by decide)
    · intro y; omega
  · rw [lN_sub z, show (864000 : Int64) = lN 864000 from rfl, lN_lt (by decide) (by omega)]
    omega
theorem TR.lost {s : tS} {u : rSt} {T i : Nat} (hT : T ≤ 2000000000) (h : TR s u) (hi : i < 200) : TR (xLost (lN T) i s) (rLost (lN T) i u) := by
  obtain ⟨h1, h2, h3⟩ := h
  obtain ⟨a1, a2, a3, a4, a5, a6, a7, a8, a9, D, hD, a10⟩ := h1 i hi
  unfold xLost rLost
  have hc : isLo (s.1 i) (lN T) ↔ (0 < u.1 10 i ∧ u.2.1 12 i + 864000 < lN T ∧ u.1 14 i = 0) := by
    show (¬ (s.1 i).2.2.2.1 = 0 ∧ (s.1 i).2.2.2.2.2.2.2 = 0 ∧ 864000 < lN T - (s.1 i).2.2.2.2.2.1) ↔ _
    rw [a4, a6, a8, i10_pos a9, a10, lo_iff hT hD]
    exact ⟨fun z => ⟨z.1, z.2.2, z.2.1⟩, fun z => ⟨z.1, z.2.2, z.2.1⟩⟩
  by_cases z : isLo (s.1 i) (lN T)
  · rw [if_pos z, if_pos (hc.mp z)]
    refine ⟨fun j hj => ?_, fun p hp => ?_, h3.tell a4 a5 a6⟩
    · show itR (va_up s.1 i (itLo (s.1 i)) j) (up2 u.1 14 i 1) (tellL u.1 u.2.1 i u.2.2 2) j
      have e : ∀ k, k ≠ 14 → (up2 u.1 14 i 1) k j = u.1 k j := fun k q1 => by rw [up2_f _ _ _ q1]
      have eL : ∀ k, k ≠ 19 → tellL u.1 u.2.1 i u.2.2 2 k j = u.2.1 k j := fun k hk => by rw [tellL_f _ _ _ _ _ hk]
      by_cases y : j = i
      · subst y
        unfold itR
        rw [va_up_self, e 7 (by decide), e 10 (by decide), e 11 (by decide), e 13 (by decide), up2_s, eL 8 (by decide), eL 9 (by decide), eL 12 (by decide)]
        exact ⟨a1, a2, a3, a4, a5, a6, a7, rfl, a9, D, hD, a10⟩
      · exact (h1 j hj).eq (va_up_ne _ _ y) (e 7 (by decide)) (e 10 (by decide)) (e 11 (by decide)) (e 13 (by decide)) (up2_j _ _ _ y) (eL 8 (by decide)) (eL 9 (by decide)) (eL 12 (by decide))
    · show s.2.1 p = up2 u.1 14 i 1 21 p
      rw [up2_f _ _ _ (by decide)]; exact h2 p hp
  · rw [if_neg z, if_neg (fun y => z (hc.mpr y))]
    exact ⟨h1, h2, h3⟩
theorem TR.tk {s : tS} {u : rSt} {T : Nat} (hT : T ≤ 2000000000) (h : TR s u) : ∀ i, i ≤ 200 → TR (xTk (lN T) s i) (rTk (lN T) u i)
  | 0, _ => h
  | i + 1, hi => ((TR.tk hT h i (by omega)).late (by omega)).lost hT (by omega)
theorem f_tick {X X' : XV} {Y Y' : RV} {r1 r2 : Int32} (h : CrF X Y) {t : Int64} (h1 : oXtick t X r1 X') (h2 : oMtick t Y r2 Y') : CrF X' Y' := by
  have hs0 := h.s0
  have f1 := oXtick_f h1
  have f2 := oMtick_f h2
  obtain ⟨g1, g2, g3, g4, g5, g6⟩ := h
  obtain ⟨hck, T0, hT0, eT0⟩ := g6
  rcases h1 with ⟨n1, _, rfl⟩ | ⟨y1, s, at2, hs, _, rfl⟩
  · rcases h2 with ⟨_, _, rfl⟩ | ⟨y2, _⟩
    · exact hs0
    · exact absurd (by rw [hck]; exact y2) n1
  · rcases h2 with ⟨n2, _⟩ | ⟨y2, u, lt2, hu, _, rfl⟩
    · exact absurd (by rw [← hck]; exact y1) n2
    obtain ⟨T, hT, rfl⟩ := lin_nat (n := 2000000000) rfl ⟨Int64.le_trans (show (0 : Int64) ≤ Y.ck by rw [eT0]; exact (lnat_in (hi := 2000000000) hT0 (by decide) rfl).1) y2.1, y2.2⟩
    have hT2 := TR.tk (s := (X.v, X.fl, X.ct, X.F, X.kt)) (u := (Y.I, Y.L, Y.na)) hT ⟨g3, fun p hp => (g4 p hp).2, g5⟩ 200 (Nat.le_refl _)
    rw [← hs, ← hu] at hT2
    have fI := f2.2.2.2.2.2.2.1
    have fL := f2.2.2.2.2.2.2.2
    exact ⟨g1.eq rfl rfl rfl rfl rfl rfl (fI 2 (by decide) (by decide) (by decide)) (fI 3 (by decide) (by decide) (by decide)) (fI 4 (by decide) (by decide) (by decide)) (fI 6 (by decide) (by decide) (by decide)) (fI 25 (by decide) (by decide) (by decide)) (fL 5 (by decide)), g2.eq rfl rfl f2.2.2.2.2.2.1 (fI 15 (by decide) (by decide) (by decide)), hT2.1, fun p hp => ⟨(g4 p hp).1.trans (congrFun (fI 20 (by decide) (by decide) (by decide)) p).symm, hT2.2.1 p hp⟩, hT2.2.2, rfl, T, hT, rfl⟩
