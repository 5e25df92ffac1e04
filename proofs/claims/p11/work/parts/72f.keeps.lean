/-! AN EVENT AND A TICK KEEP WHAT BINDS -/
section KEEP
variable {m : Nat} {X X' : XV} {Y Y' : RV} {r1 r2 : Int32}
theorem evI_o (I : Nat → Nat → Int32) (j : Nat) (x : Int32) (k : Nat) {i : Nat} (h : i ≠ j) : up2 (rEnd I j) 7 j x k i = I k i := by
  rw [up2_o _ _ _ _ _ h]; exact rEnd_ne I j h k
theorem evL_o (I : Nat → Nat → Int32) (L : Nat → Nat → Int64) (j : Nat) (t : Int64) (k : Nat) {i : Nat} (h : i ≠ j) : evL I L j t k i = L k i := by
  show up2 (up2 L 8 j _) 9 j t k i = _
  rw [up2_o _ _ _ _ _ h, up2_o _ _ _ _ _ h]
theorem evL_8 (I : Nat → Nat → Int32) (L : Nat → Nat → Int64) (j : Nat) (t : Int64) : evL I L j t 8 j = (if I 7 j < 0 then t else L 8 j) := by
  show up2 (up2 L 8 j _) 9 j t 8 j = _
  rw [up2_f _ _ _ (by decide), up2_s]
/-- the item of an event: its state, first, last -/
theorem itR.ev {w : itS} {I : Nat → Nat → Int32} {L : Nat → Nat → Int64} {j a tt : Nat} (h : itR w I L j) (ha : a ≤ 9) : itR (itV w (nI a) (lN tt)) (up2 (rEnd I j) 7 j (nI a)) (evL I L j (lN tt)) j := by
  obtain ⟨a1, a2, a3, a4, a5, a6, a7, a8, a9, a10⟩ := h
  obtain ⟨b1, b2, b3⟩ := rEnd_j I j
  have na : ¬ nI a < 0 := Int32.not_lt.mpr (nI_pos' (by omega))
  have e7 : up2 (rEnd I j) 7 j (nI a) 7 j = nI a := up2_s _ _ _ _
  have e : ∀ k, k ≠ 7 → up2 (rEnd I j) 7 j (nI a) k j = rEnd I j k j := fun k hk => by rw [up2_f _ _ _ hk]
  have e11 : rEnd I j 11 j = I 11 j := congrFun (rEnd_f I j ⟨by decide, by decide, by decide⟩) j
  have e12 : evL I L j (lN tt) 12 j = L 12 j := congrFun (evL_f I L j (lN tt) ⟨by decide, by decide⟩) j
  unfold itR
  rw [e7, e 10 (by decide), e 11 (by decide), e 13 (by decide), e 14 (by decide), b1, b2, b3, e11, e12, evL_8, evL_9]
  refine ⟨rfl, Or.inr na, fun _ => ⟨?_, rfl⟩, rfl, a5, a6, rfl, rfl, ⟨0, by decide, rfl⟩, a10⟩
  show (if w.1 = (-1) then lN tt else w.2.1) = if I 7 j < 0 then lN tt else L 8 j
  rcases a2 with z | z
  · rw [if_pos (a1.trans z), if_pos (by rw [z]; decide)]
  · rw [if_neg (fun y => z (by rw [← a1, y]; decide)), if_neg z]; exact (a3 z).1
theorem f_event (hC : X.ci m) (hR : Y.ri m) (h : CrF X Y) {i st pl sv : Int32} {t : Int64} (h1 : oXevent i st pl sv t X r1 X') (h2 : oMevent i st pl sv t Y r2 Y') : CrF X' Y' ∧ r1 = r2 := by
  have f1 := oXevent_f h1
  have f2 := oMevent_f h2
  have hm := ev_match hC hR h.1 h.2.2.1 h1 h2
  refine ⟨?_, hm.1⟩
  rcases hm.2 with ⟨rfl, rfl⟩ | ⟨j, p, a, v, tt, hj, hp, ha, hv, htt, ho⟩
  · exact h.s0
  obtain ⟨g1, g2, g3, g4, g5, g6⟩ := h
  suffices hs : CrR X' Y' ∧ CrI X' Y' ∧ X'.fb = X'.fb ∧ ∀ p, p < 50 → X'.fb p = Y'.I 20 p from
    ⟨hs.1, g2.eq f1.2.1 f1.2.2.1 f2.2.2.2.2.2.1 f2.2.2.2.2.2.2.1.2.2.2.2.1, hs.2.1, fun p hp => ⟨hs.2.2.2 p hp, by rw [f1.2.2.2.2.2.1, f2.2.2.2.2.2.2.1.2.2.2.2.2]; exact (g4 p hp).2⟩, g5.eq f1.2.2.2.1 f1.2.2.2.2.1 f2.2.1 f2.2.2.2.2.2.2.2.2, g6.eq f1.2.2.2.2.2.2 f2.2.2.1⟩
  have n2 := f2.2.2.2.2.2.2.1
  rcases ho with ⟨h9, fd2, fs2, _, rfl, rfl⟩ | ⟨h9, rfl, rfl⟩ | ⟨h9, k, hk, hf, rfl, rfl⟩ | ⟨h9, k, hk, rfl, rfl⟩
  · refine ⟨g1.eq rfl rfl rfl rfl rfl rfl n2.1 n2.2.1 n2.2.2.1 n2.2.2.2.1 ?_ f2.2.2.2.2.2.2.2.1, fun i hi => ?_, rfl, fun p hp => ?_⟩
    · show up2 (up2 (up2 (rEnd Y.I j) 23 (4200 * v + Y.cn v) (evD Y.I Y.L j (lN tt))) 22 v (nI (Y.cn v + 1))) 7 j (-1) 25 = Y.I 25
      rw [up2_f _ _ _ (by decide), up2_f _ _ _ (by decide), up2_f _ _ _ (by decide)]; exact rEnd_f Y.I j ⟨by decide, by decide, by decide⟩
    · show itR (va_up X.v j (itD (X.v j)) i) (up2 (up2 (up2 (rEnd Y.I j) 23 (4200 * v + Y.cn v) (evD Y.I Y.L j (lN tt))) 22 v (nI (Y.cn v + 1))) 7 j (-1)) (evL Y.I Y.L j (lN tt)) i
      have e : ∀ k, k ≠ 7 → k ≠ 22 → k ≠ 23 → (up2 (up2 (up2 (rEnd Y.I j) 23 (4200 * v + Y.cn v) (evD Y.I Y.L j (lN tt))) 22 v (nI (Y.cn v + 1))) 7 j (-1)) k = rEnd Y.I j k := fun k q1 q2 q3 => by rw [up2_f _ _ _ q1, up2_f _ _ _ q2, up2_f _ _ _ q3]
      by_cases z : i = j
      · subst z
        rw [va_up_self]
        obtain ⟨a1, a2, a3, a4, a5, a6, a7, a8, a9, a10⟩ := g3 i hi
        obtain ⟨b1, b2, b3⟩ := rEnd_j Y.I i
        have e11 : rEnd Y.I i 11 i = Y.I 11 i := congrFun (rEnd_f Y.I i ⟨by decide, by decide, by decide⟩) i
        have e12 : evL Y.I Y.L i (lN tt) 12 i = Y.L 12 i := congrFun (evL_f Y.I Y.L i (lN tt) ⟨by decide, by decide⟩) i
        unfold itR
        rw [up2_s, e 10 (by decide) (by decide) (by decide), e 11 (by decide) (by decide) (by decide), e 13 (by decide) (by decide) (by decide), e 14 (by decide) (by decide) (by decide), b1, b2, b3, e11, e12]
        exact ⟨rfl, Or.inl rfl, fun y => absurd (by decide) y, rfl, a5, a6, rfl, rfl, ⟨0, by decide, rfl⟩, a10⟩
      · have o : ∀ k, k ≠ 22 → k ≠ 23 → (up2 (up2 (up2 (rEnd Y.I j) 23 (4200 * v + Y.cn v) (evD Y.I Y.L j (lN tt))) 22 v (nI (Y.cn v + 1))) 7 j (-1)) k i = Y.I k i := fun k q2 q3 => by
          rw [up2_o _ _ _ _ _ z, up2_f _ _ _ q2, up2_f _ _ _ q3]; exact rEnd_ne Y.I j z k
        exact (g3 i hi).eq (va_up_ne _ _ z) (o 7 (by decide) (by decide)) (o 10 (by decide) (by decide)) (o 11 (by decide) (by decide)) (o 13 (by decide) (by decide)) (o 14 (by decide) (by decide)) (evL_o _ _ _ _ _ z) (evL_o _ _ _ _ _ z) (evL_o _ _ _ _ _ z)
    · show X.fb p = up2 (up2 (up2 (rEnd Y.I j) 23 (4200 * v + Y.cn v) (evD Y.I Y.L j (lN tt))) 22 v (nI (Y.cn v + 1))) 7 j (-1) 20 p
      rw [up2_f _ _ _ (by decide), up2_f _ _ _ (by decide), up2_f _ _ _ (by decide), rEnd_f Y.I j ⟨by decide, by decide, by decide⟩]; exact (g4 p hp).1
  · refine ⟨g1.eq rfl rfl rfl rfl rfl rfl n2.1 n2.2.1 n2.2.2.1 n2.2.2.2.1 ?_ f2.2.2.2.2.2.2.2.1, fun i hi => ?_, rfl, fun p hp => ?_⟩
    · show up2 (rEnd Y.I j) 7 j (nI a) 25 = Y.I 25
      rw [up2_f _ _ _ (by decide)]; exact rEnd_f Y.I j ⟨by decide, by decide, by decide⟩
    · show itR (va_up X.v j (itV (X.v j) (nI a) (lN tt)) i) (up2 (rEnd Y.I j) 7 j (nI a)) (evL Y.I Y.L j (lN tt)) i
      by_cases z : i = j
      · subst z; rw [va_up_self]; exact (g3 i hi).ev ha
      · exact (g3 i hi).eq (va_up_ne _ _ z) (evI_o _ _ _ _ z) (evI_o _ _ _ _ z) (evI_o _ _ _ _ z) (evI_o _ _ _ _ z) (evI_o _ _ _ _ z) (evL_o _ _ _ _ _ z) (evL_o _ _ _ _ _ z) (evL_o _ _ _ _ _ z)
    · show X.fb p = up2 (rEnd Y.I j) 7 j (nI a) 20 p
      rw [up2_f _ _ _ (by decide), rEnd_f Y.I j ⟨by decide, by decide, by decide⟩]; exact (g4 p hp).1
  · have e25 : up2 (rEnd Y.I j) 7 j (nI a) 25 = Y.I 25 := by rw [up2_f _ _ _ (by decide)]; exact rEnd_f Y.I j ⟨by decide, by decide, by decide⟩
    refine ⟨⟨g1.1, congrArg (· + 1) g1.2.1, fun z hz => ?_, fun y hy => ?_⟩, fun i hi => ?_, rfl, fun p hp => ?_⟩
    · have hz : z < X.cf + 1 := hz
      show up2 (up2 (rEnd Y.I j) 7 j (nI a)) 25 Y.nf (nI (k + 1)) 25 z = nI (va_up X.fr X.cf k z + 1)
      rw [← g1.2.1]
      by_cases w : z = X.cf
      · rw [w, up2_s, va_up_self]
      · rw [up2_j _ _ _ w, va_up_ne _ _ w, e25]; exact g1.2.2.1 z (by omega)
    · show rowR (va_up X.R k (rowF (X.R k)) y) _ y ∧ ((va_up X.R k (rowF (X.R k)) y).2.2.2.2.2.2 = 0 ↔ ∀ z, z < X.cf + 1 → va_up X.fr X.cf k z ≠ y)
      have o := g1.2.2.2 y hy
      have oe := o.1.eq (Y' := evFY Y j a tt (k + 1)) (congrFun n2.1 _) (congrFun n2.2.1 _) (congrFun n2.2.2.1 _) (congrFun f2.2.2.2.2.2.2.2.1 _) (congrFun n2.2.2.2.1 _)
      by_cases w : y = k
      · subst w
        rw [va_up_self]
        refine ⟨oe, ⟨fun z => absurd (show (1 : Int32) = 0 from z) (by decide), fun z => absurd (va_up_self _ _ _) (z X.cf (by omega))⟩⟩
      · rw [va_up_ne _ _ w]
        refine ⟨oe, o.2.trans ⟨fun z u hu => ?_, fun z u hu => ?_⟩⟩
        · by_cases x : u = X.cf
          · rw [x, va_up_self]; exact fun q => w q.symm
          · rw [va_up_ne _ _ x]; exact z u (by omega)
        · have := z u (by omega)
          rw [va_up_ne _ _ (by omega)] at this
          exact this
    · show itR (va_up X.v j (itV (X.v j) (nI a) (lN tt)) i) (up2 (up2 (rEnd Y.I j) 7 j (nI a)) 25 Y.nf (nI (k + 1))) (evL Y.I Y.L j (lN tt)) i
      have e : ∀ q, q ≠ 25 → (up2 (up2 (rEnd Y.I j) 7 j (nI a)) 25 Y.nf (nI (k + 1))) q i = up2 (rEnd Y.I j) 7 j (nI a) q i := fun q hq => by rw [up2_f _ _ _ hq]
      have base : itR (va_up X.v j (itV (X.v j) (nI a) (lN tt)) i) (up2 (rEnd Y.I j) 7 j (nI a)) (evL Y.I Y.L j (lN tt)) i := by
        by_cases z : i = j
        · subst z; rw [va_up_self]; exact (g3 i hi).ev ha
        · exact (g3 i hi).eq (va_up_ne _ _ z) (evI_o _ _ _ _ z) (evI_o _ _ _ _ z) (evI_o _ _ _ _ z) (evI_o _ _ _ _ z) (evI_o _ _ _ _ z) (evL_o _ _ _ _ _ z) (evL_o _ _ _ _ _ z) (evL_o _ _ _ _ _ z)
      exact base.eq rfl (e 7 (by decide)) (e 10 (by decide)) (e 11 (by decide)) (e 13 (by decide)) (e 14 (by decide)) rfl rfl rfl
    · show X.fb p = up2 (up2 (rEnd Y.I j) 7 j (nI a)) 25 Y.nf (nI (k + 1)) 20 p
      rw [up2_f _ _ _ (by decide), up2_f _ _ _ (by decide), rEnd_f Y.I j ⟨by decide, by decide, by decide⟩]; exact (g4 p hp).1
  · have hk40 := hC.1.1
    obtain ⟨hr, _⟩ := g1.2.2.2 k hk
    have hw := hR.2.2.2.2.2.2.1 (k + 1) (by omega) (by have := g1.1; omega)
    have hd := due_eq g2 hC.2.2.1 htt hw.2
    have hdd : dA X.fh (lN tt) (X.R k).2.2.2.2.1 X.ch = lN (bh (Y.I 15) (Y.wi (k + 1) + 20002) tt (Y.wi (k + 1))) := by rw [hr.2.2.2.2.1, hw.1]; exact hd.1
    refine ⟨g1.eq rfl rfl rfl rfl rfl rfl n2.1 n2.2.1 n2.2.2.1 n2.2.2.2.1 ?_ f2.2.2.2.2.2.2.2.1, fun i hi => ?_, rfl, fun p' hp' => ?_⟩
    · show up2 (up2 (up2 (up2 (rEnd Y.I j) 7 j (nI a)) 10 j (nI (k + 1))) 11 j (nI p)) 20 p (nI (Y.bg p + 1)) 25 = Y.I 25
      rw [up2_f _ _ _ (by decide), up2_f _ _ _ (by decide), up2_f _ _ _ (by decide), up2_f _ _ _ (by decide)]; exact rEnd_f Y.I j ⟨by decide, by decide, by decide⟩
    · show itR (va_up X.v j (itX (itV (X.v j) (nI a) (lN tt)) (X.R k).1 (nI p) (dA X.fh (lN tt) (X.R k).2.2.2.2.1 X.ch)) i) (up2 (up2 (up2 (up2 (rEnd Y.I j) 7 j (nI a)) 10 j (nI (k + 1))) 11 j (nI p)) 20 p (nI (Y.bg p + 1))) (up2 (evL Y.I Y.L j (lN tt)) 12 j (lN (bh (Y.I 15) (Y.wi (k + 1) + 20002) tt (Y.wi (k + 1))))) i
      by_cases z : i = j
      · subst z
        rw [va_up_self, hdd]
        obtain ⟨a1, a2, a3, a4, a5, a6, a7, a8, a9, a10⟩ := (g3 i hi).ev (tt := tt) ha
        have e : ∀ q, q ≠ 20 → q ≠ 11 → q ≠ 10 → (up2 (up2 (up2 (up2 (rEnd Y.I i) 7 i (nI a)) 10 i (nI (k + 1))) 11 i (nI p)) 20 p (nI (Y.bg p + 1))) q i = up2 (rEnd Y.I i) 7 i (nI a) q i := fun q q1 q2 q3 => by rw [up2_f _ _ _ q1, up2_f _ _ _ q2, up2_f _ _ _ q3]
        have e10 : (up2 (up2 (up2 (up2 (rEnd Y.I i) 7 i (nI a)) 10 i (nI (k + 1))) 11 i (nI p)) 20 p (nI (Y.bg p + 1))) 10 i = nI (k + 1) := by rw [up2_f _ _ _ (by decide), up2_f _ _ _ (by decide), up2_s]
        have e11 : (up2 (up2 (up2 (up2 (rEnd Y.I i) 7 i (nI a)) 10 i (nI (k + 1))) 11 i (nI p)) 20 p (nI (Y.bg p + 1))) 11 i = nI p := by rw [up2_f _ _ _ (by decide), up2_s]
        have eL : ∀ q, q ≠ 12 → (up2 (evL Y.I Y.L i (lN tt)) 12 i (lN (bh (Y.I 15) (Y.wi (k + 1) + 20002) tt (Y.wi (k + 1))))) q i = evL Y.I Y.L i (lN tt) q i := fun q hq => by rw [up2_f _ _ _ hq]
        unfold itR
        rw [e 7 (by decide) (by decide) (by decide), e10, e11, e 13 (by decide) (by decide) (by decide), e 14 (by decide) (by decide) (by decide), eL 8 (by decide), eL 9 (by decide), up2_s (evL Y.I Y.L i (lN tt))]
        exact ⟨a1, a2, a3, hr.1, rfl, rfl, a7, a8, ⟨k + 1, by omega, rfl⟩, _, hd.2, rfl⟩
      · have o : ∀ q, q ≠ 20 → (up2 (up2 (up2 (up2 (rEnd Y.I j) 7 j (nI a)) 10 j (nI (k + 1))) 11 j (nI p)) 20 p (nI (Y.bg p + 1))) q i = Y.I q i := fun q hq => by
          rw [up2_f _ _ _ hq, up2_o _ _ _ _ _ z, up2_o _ _ _ _ _ z]; exact evI_o _ _ _ _ z
        have oL : ∀ q, (up2 (evL Y.I Y.L j (lN tt)) 12 j (lN (bh (Y.I 15) (Y.wi (k + 1) + 20002) tt (Y.wi (k + 1))))) q i = Y.L q i := fun q => by
          rw [up2_o _ _ _ _ _ z]; exact evL_o _ _ _ _ _ z
        exact (g3 i hi).eq (va_up_ne _ _ z) (o 7 (by decide)) (o 10 (by decide)) (o 11 (by decide)) (o 13 (by decide)) (o 14 (by decide)) (oL 8) (oL 9) (oL 12)
    · show va_up X.fb p (X.fb p + 1) p' = up2 (up2 (up2 (up2 (rEnd Y.I j) 7 j (nI a)) 10 j (nI (k + 1))) 11 j (nI p)) 20 p (nI (Y.bg p + 1)) 20 p'
      by_cases z : p' = p
      · rw [z, va_up_self, up2_s, (g4 p hp).1, (hR.2.2.2.2.2.1 p hp).1, nI_1]
      · rw [va_up_ne _ _ z, up2_j _ _ _ z, up2_f _ _ _ (by decide), up2_f _ _ _ (by decide), up2_f _ _ _ (by decide), rEnd_f Y.I j ⟨by decide, by decide, by decide⟩]; exact (g4 p' hp').1
end KEEP
