/-! THE WHOLE STATE: what binds the two sides -/
theorem up2_o {α : Type} (I : Nat → Nat → α) (k0 j : Nat) (x : α) (k : Nat) {i : Nat} (h : i ≠ j) : up2 I k0 j x k i = I k i := by
  by_cases z : k = k0
  · subst z; exact up2_j _ _ _ h
  · rw [up2_f _ _ _ z]
def itR (w : itS) (I : Nat → Nat → Int32) (L : Nat → Nat → Int64) (j : Nat) : Prop :=
  w.1 = I 7 j ∧ (I 7 j = (-1) ∨ ¬ I 7 j < 0) ∧ (¬ I 7 j < 0 → w.2.1 = L 8 j ∧ w.2.2.1 = L 9 j) ∧ w.2.2.2.1 = I 10 j ∧ w.2.2.2.2.1 = I 11 j ∧ w.2.2.2.2.2.1 = L 12 j ∧ w.2.2.2.2.2.2.1 = I 13 j ∧ w.2.2.2.2.2.2.2 = I 14 j ∧ (∃ k, k ≤ 40 ∧ I 10 j = nI k) ∧ ∃ D, D ≤ 1100000000 ∧ L 12 j = lN D
theorem itR.eq {w w' : itS} {I I' : Nat → Nat → Int32} {L L' : Nat → Nat → Int64} {j : Nat} (h : itR w I L j) (hw : w' = w) (h7 : I' 7 j = I 7 j) (h10 : I' 10 j = I 10 j) (h11 : I' 11 j = I 11 j) (h13 : I' 13 j = I 13 j) (h14 : I' 14 j = I 14 j) (h8 : L' 8 j = L 8 j) (h9 : L' 9 j = L 9 j) (h12 : L' 12 j = L 12 j) : itR w' I' L' j := by
  unfold itR at h ⊢
  rw [hw, h7, h10, h11, h13, h14, h8, h9, h12]
  exact h
def rowR (w : rowS) (Y : RV) (k : Nat) : Prop := w.1 = nI (k + 1) ∧ w.2.1 = Y.I 2 (k + 1) ∧ w.2.2.1 = Y.I 3 (k + 1) ∧ w.2.2.2.1 = Y.I 4 (k + 1) ∧ w.2.2.2.2.1 = Y.L 5 (k + 1) ∧ w.2.2.2.2.2.1 = Y.I 6 (k + 1) ∧ (Y.I 3 (k + 1) = (-1) ∨ ¬ Y.I 3 (k + 1) < 0) ∧ (Y.I 4 (k + 1) = (-1) ∨ ¬ Y.I 4 (k + 1) < 0)
theorem rowR.eq {w : rowS} {Y Y' : RV} {k : Nat} (h : rowR w Y k) (h2 : Y'.I 2 (k + 1) = Y.I 2 (k + 1)) (h3 : Y'.I 3 (k + 1) = Y.I 3 (k + 1)) (h4 : Y'.I 4 (k + 1) = Y.I 4 (k + 1)) (h5 : Y'.L 5 (k + 1) = Y.L 5 (k + 1)) (h6 : Y'.I 6 (k + 1) = Y.I 6 (k + 1)) : rowR w Y' k := by
  unfold rowR at h ⊢
  rw [h2, h3, h4, h5, h6]
  exact h
def CrR (X : XV) (Y : RV) : Prop := X.c = Y.nr ∧ X.cf = Y.nf ∧ (∀ z, z < X.cf → Y.I 25 z = nI (X.fr z + 1)) ∧ ∀ k, k < X.c → rowR (X.R k) Y k ∧ ((X.R k).2.2.2.2.2.2 = 0 ↔ ∀ z, z < X.cf → X.fr z ≠ k)
def CrI (X : XV) (Y : RV) : Prop := ∀ j, j < 200 → itR (X.v j) Y.I Y.L j
def CrC (X : XV) (Y : RV) : Prop := ∀ p, p < 50 → X.fb p = Y.I 20 p ∧ X.fl p = Y.I 21 p
def alR (ct n : Nat) (F : Nat → Nat → Int32) (L19 : Nat → Int64) : Prop := ct = min n 400 ∧ ∀ i v, i < ct → v < 5 → F i v = (L19 (5 * i + v)).toInt32
def CrT (X : XV) (Y : RV) : Prop := alR X.ct Y.na X.F (Y.L 19)
def CrK (X : XV) (Y : RV) : Prop := X.ck = Y.ck ∧ ∃ T, T ≤ 2000000000 ∧ Y.ck = lN T
def CrF (X : XV) (Y : RV) : Prop := CrR X Y ∧ CrH X Y ∧ CrI X Y ∧ CrC X Y ∧ CrT X Y ∧ CrK X Y
section FULL
variable {m : Nat} {X X' : XV} {Y Y' : RV} {r1 r2 : Int32}
theorem CrR.eq (h : CrR X Y) (h1 : X'.c = X.c) (h2 : X'.cf = X.cf) (h3 : X'.R = X.R) (h4 : X'.fr = X.fr) (h5 : Y'.nr = Y.nr) (h6 : Y'.nf = Y.nf) (g2 : Y'.I 2 = Y.I 2) (g3 : Y'.I 3 = Y.I 3) (g4 : Y'.I 4 = Y.I 4) (g6 : Y'.I 6 = Y.I 6) (g25 : Y'.I 25 = Y.I 25) (g5 : Y'.L 5 = Y.L 5) : CrR X' Y' := by
  unfold CrR at h ⊢
  rw [h1, h2, h3, h4, h5, h6, g25]
  exact ⟨h.1, h.2.1, h.2.2.1, fun k hk => ⟨(h.2.2.2 k hk).1.eq (by rw [g2]) (by rw [g3]) (by rw [g4]) (by rw [g5]) (by rw [g6]), (h.2.2.2 k hk).2⟩⟩
theorem CrI.eq (h : CrI X Y) (hv : X'.v = X.v) (h7 : Y'.I 7 = Y.I 7) (h10 : Y'.I 10 = Y.I 10) (h11 : Y'.I 11 = Y.I 11) (h13 : Y'.I 13 = Y.I 13) (h14 : Y'.I 14 = Y.I 14) (h8 : Y'.L 8 = Y.L 8) (h9 : Y'.L 9 = Y.L 9) (h12 : Y'.L 12 = Y.L 12) : CrI X' Y' := fun j hj => (h j hj).eq (by rw [hv]) (by rw [h7]) (by rw [h10]) (by rw [h11]) (by rw [h13]) (by rw [h14]) (by rw [h8]) (by rw [h9]) (by rw [h12])
theorem CrC.eq (h : CrC X Y) (hb : X'.fb = X.fb) (hl : X'.fl = X.fl) (h1 : Y'.I 20 = Y.I 20) (h2 : Y'.I 21 = Y.I 21) : CrC X' Y' := fun p hp => by rw [hb, hl, h1, h2]; exact h p hp
theorem CrT.eq (h : CrT X Y) (h1 : X'.ct = X.ct) (h2 : X'.F = X.F) (h3 : Y'.na = Y.na) (h4 : Y'.L 19 = Y.L 19) : CrT X' Y' := by unfold CrT at h ⊢; rw [h1, h2, h3, h4]; exact h
theorem CrK.eq (h : CrK X Y) (h1 : X'.ck = X.ck) (h2 : Y'.ck = Y.ck) : CrK X' Y' := by unfold CrK at h ⊢; rw [h1, h2]; exact h
theorem CrF.same (h : CrF X Y) (hI : Y'.I = Y.I) (hL : Y'.L = Y.L) (hS : Y'.S 16 = Y.S 16) (h1 : Y'.nr = Y.nr) (h2 : Y'.nf = Y.nf) (h3 : Y'.na = Y.na) (h4 : Y'.ck = Y.ck) : CrF X Y' :=
  ⟨h.1.eq rfl rfl rfl rfl h1 h2 (by rw [hI]) (by rw [hI]) (by rw [hI]) (by rw [hI]) (by rw [hI]) (by rw [hL]), h.2.1.eq rfl rfl hS (by rw [hI]), h.2.2.1.eq rfl (by rw [hI]) (by rw [hI]) (by rw [hI]) (by rw [hI]) (by rw [hI]) (by rw [hL]) (by rw [hL]) (by rw [hL]), h.2.2.2.1.eq rfl rfl (by rw [hI]) (by rw [hI]), h.2.2.2.2.1.eq rfl rfl h3 (by rw [hL]), h.2.2.2.2.2.eq rfl h4⟩
theorem CrF.s0 (h : CrF X Y) : CrF X Y.s0 := h.same rfl rfl (su16 Y.S 0 0 (by decide)) rfl rfl rfl rfl
theorem n_neg {x : Int32} (h : x = (-1) ∨ (0 ≤ x ∧ x < 50)) : x = (-1) ∨ ¬ x < 0 := h.imp id (fun z => Int32.not_lt.mpr z.1)
theorem n_neg5 {x : Int32} (h : x = (-1) ∨ (0 ≤ x ∧ x < 5)) : x = (-1) ∨ ¬ x < 0 := h.imp id (fun z => Int32.not_lt.mpr z.1)
theorem f_rule (hC : X.ci m) (hR : Y.ri m) (h : CrF X Y) {st pl sv : Int32} {wi : Int64} {fl : Int32} (h1 : oXrule st pl sv wi fl X r1 X') (h2 : oMrule st pl sv wi fl Y r2 Y') : CrF X' Y' ∧ r1 = r2 := by
  have f1 := oXrule_f h1
  have f2 := oMrule_f h2
  have fI := f2.2.2.2.2.2.2.2.2.1
  have fL := f2.2.2.2.2.2.2.2.2.2
  obtain ⟨g1, g2, g3, g4, g5, g6⟩ := h
  suffices hs : CrR X' Y' ∧ r1 = r2 from
    ⟨⟨hs.1, g2.eq f1.2.2.1 f1.2.2.2.1 f2.2.2.2.2.2.2.2.1 (fI 15 (by decide) (by decide) (by decide) (by decide)), g3.eq f1.2.2.2.2.2.2.2.2.2.1 (fI 7 (by decide) (by decide) (by decide) (by decide)) (fI 10 (by decide) (by decide) (by decide) (by decide)) (fI 11 (by decide) (by decide) (by decide) (by decide)) (fI 13 (by decide) (by decide) (by decide) (by decide)) (fI 14 (by decide) (by decide) (by decide) (by decide)) (fL 8 (by decide)) (fL 9 (by decide)) (fL 12 (by decide)), g4.eq f1.2.2.2.2.2.2.2.1 f1.2.2.2.2.2.2.2.2.1 (fI 20 (by decide) (by decide) (by decide) (by decide)) (fI 21 (by decide) (by decide) (by decide) (by decide)), g5.eq f1.2.2.2.2.2.2.2.2.2.2.1 f1.2.2.2.2.2.2.2.2.2.2.2.1 f2.2.1 (fL 19 (by decide)), g6.eq f1.2.2.2.2.2.2.2.2.2.2.2.2 f2.2.2.2.2.2.2.1⟩, hs.2⟩
  have h : X.c = Y.nr := g1.1
  have hn40 : Y.nr ≤ 40 := hR.1.2
  have e40 : nI Y.nr = 40 ↔ Y.nr = 40 := nI_eq (b := 40) (by omega) (by decide)
  have hs0 : CrR X Y.s0 := g1.eq rfl rfl rfl rfl rfl rfl rfl rfl rfl rfl rfl rfl
  rcases h1 with ⟨n1, rfl, rfl⟩ | ⟨y1, z1, rfl, rfl⟩ | ⟨y1, z1, rfl, qa, rfl⟩
  · rcases h2 with ⟨_, rfl, rfl⟩ | ⟨y2, _⟩ | ⟨y2, _⟩
    · exact ⟨hs0, rfl⟩
    · exact absurd (n_rc.mpr y2) n1
    · exact absurd (n_rc.mpr y2) n1
  · rcases h2 with ⟨n2, _⟩ | ⟨y2, _, rfl, rfl⟩ | ⟨y2, z2, _⟩
    · exact absurd (n_rc.mp y1) n2
    · exact ⟨hs0, rfl⟩
    · omega
  · rcases h2 with ⟨n2, _⟩ | ⟨y2, z2, _⟩ | ⟨y2, z2, rfl, w0, _, rfl⟩
    · exact absurd (n_rc.mp y1) n2
    · have := e40.mp z2; omega
    · refine ⟨⟨congrArg (· + 1) h, g1.2.1, fun z hz => ?_, fun k hk => ?_⟩, by rw [h]⟩
      · show up2 (up2 (up2 (up2 Y.I 2 (Y.nr + 1) st) 3 (Y.nr + 1) pl) 4 (Y.nr + 1) sv) 6 (Y.nr + 1) fl 25 z = nI (X.fr z + 1)
        rw [up2_f _ _ _ (by decide), up2_f _ _ _ (by decide), up2_f _ _ _ (by decide), up2_f _ _ _ (by decide)]
        exact g1.2.2.1 z hz
      · have hk : k < X.c + 1 := hk
        show rowR (va_up X.R X.c (nI (X.c + 1), st, pl, sv, wi, fl, 0) k) _ k ∧ ((va_up X.R X.c (nI (X.c + 1), st, pl, sv, wi, fl, 0) k).2.2.2.2.2.2 = 0 ↔ ∀ z, z < X.cf → X.fr z ≠ k)
        by_cases z : k = X.c
        · rw [z, va_up_self]
          refine ⟨⟨rfl, ?_, ?_, ?_, ?_, ?_, ?_, ?_⟩, ⟨fun _ y hy => by have := hC.2.1.2.1 y hy; omega, fun _ => rfl⟩⟩
          · show st = up2 (up2 (up2 (up2 Y.I 2 (Y.nr + 1) st) 3 (Y.nr + 1) pl) 4 (Y.nr + 1) sv) 6 (Y.nr + 1) fl 2 (X.c + 1)
            rw [up2_f _ _ _ (by decide), up2_f _ _ _ (by decide), up2_f _ _ _ (by decide), h, up2_s]
          · show pl = up2 (up2 (up2 (up2 Y.I 2 (Y.nr + 1) st) 3 (Y.nr + 1) pl) 4 (Y.nr + 1) sv) 6 (Y.nr + 1) fl 3 (X.c + 1)
            rw [up2_f _ _ _ (by decide), up2_f _ _ _ (by decide), h, up2_s]
          · show sv = up2 (up2 (up2 (up2 Y.I 2 (Y.nr + 1) st) 3 (Y.nr + 1) pl) 4 (Y.nr + 1) sv) 6 (Y.nr + 1) fl 4 (X.c + 1)
            rw [up2_f _ _ _ (by decide), h, up2_s]
          · show wi = up2 Y.L 5 (Y.nr + 1) wi 5 (X.c + 1)
            rw [h, up2_s]
          · show fl = up2 (up2 (up2 (up2 Y.I 2 (Y.nr + 1) st) 3 (Y.nr + 1) pl) 4 (Y.nr + 1) sv) 6 (Y.nr + 1) fl 6 (X.c + 1)
            rw [h, up2_s]
          · show up2 (up2 (up2 (up2 Y.I 2 (Y.nr + 1) st) 3 (Y.nr + 1) pl) 4 (Y.nr + 1) sv) 6 (Y.nr + 1) fl 3 (X.c + 1) = (-1) ∨ ¬ up2 (up2 (up2 (up2 Y.I 2 (Y.nr + 1) st) 3 (Y.nr + 1) pl) 4 (Y.nr + 1) sv) 6 (Y.nr + 1) fl 3 (X.c + 1) < 0
            rw [up2_f _ _ _ (by decide), up2_f _ _ _ (by decide), h, up2_s]
            exact n_neg y1.2.1
          · show up2 (up2 (up2 (up2 Y.I 2 (Y.nr + 1) st) 3 (Y.nr + 1) pl) 4 (Y.nr + 1) sv) 6 (Y.nr + 1) fl 4 (X.c + 1) = (-1) ∨ ¬ up2 (up2 (up2 (up2 Y.I 2 (Y.nr + 1) st) 3 (Y.nr + 1) pl) 4 (Y.nr + 1) sv) 6 (Y.nr + 1) fl 4 (X.c + 1) < 0
            rw [up2_f _ _ _ (by decide), h, up2_s]
            exact n_neg5 y1.2.2.1
        · rw [va_up_ne _ _ z]
          have o := g1.2.2.2 k (by omega)
          have ho : ∀ q, (up2 (up2 (up2 (up2 Y.I 2 (Y.nr + 1) st) 3 (Y.nr + 1) pl) 4 (Y.nr + 1) sv) 6 (Y.nr + 1) fl) q (k + 1) = Y.I q (k + 1) := fun q => by
            rw [up2_o _ _ _ _ _ (by omega), up2_o _ _ _ _ _ (by omega), up2_o _ _ _ _ _ (by omega), up2_o _ _ _ _ _ (by omega)]
          exact ⟨o.1.eq (ho 2) (ho 3) (ho 4) (up2_o Y.L 5 (Y.nr + 1) wi 5 (show k + 1 ≠ Y.nr + 1 by omega)) (ho 6), o.2⟩
theorem f_hol (hC : X.ci m) (h : CrF X Y) {t : Int64} (h1 : oXhol t X r1 X') (h2 : oMhol t Y r2 Y') : CrF X' Y' ∧ r1 = r2 := by
  have f1 := oXhol_f h1
  have f2 := oMhol_f h2
  have fI := f2.2.2.2.2.2.2.2.2.2.2
  obtain ⟨g1, g2, g3, g4, g5, g6⟩ := h
  have hh := h_hol hC.2.2.1 g2 h1 h2
  have hL : Y'.L = Y.L := f2.2.2.2.2.2.2.2.2.1
  exact ⟨⟨g1.eq f1.1 f1.2.1 f1.2.2.1 f1.2.2.2.1 f2.1 f2.2.1 (fI 2 (by decide)) (fI 3 (by decide)) (fI 4 (by decide)) (fI 6 (by decide)) (fI 25 (by decide)) (by rw [hL]), hh.1, g3.eq f1.2.2.2.2.2.2.2.2.2.1 (fI 7 (by decide)) (fI 10 (by decide)) (fI 11 (by decide)) (fI 13 (by decide)) (fI 14 (by decide)) (by rw [hL]) (by rw [hL]) (by rw [hL]), g4.eq f1.2.2.2.2.2.2.2.1 f1.2.2.2.2.2.2.2.2.1 (fI 20 (by decide)) (fI 21 (by decide)), g5.eq f1.2.2.2.2.2.2.2.2.2.2.1 f1.2.2.2.2.2.2.2.2.2.2.2.1 f2.2.2.1 (by rw [hL]), g6.eq f1.2.2.2.2.2.2.2.2.2.2.2.2 f2.2.2.2.2.2.2.2.2.2.1⟩, hh.2⟩
theorem a_time (hR : Y.ri m) {w : itS} {j : Nat} (hj : j < 200) (h : itR w Y.I Y.L j) (t : Int64) : xTime w t ↔ rTime Y.I Y.L j t := by
  show (0 ≤ t ∧ t ≤ 1000000000 ∧ (w.1 = (-1) ∨ w.2.2.1 ≤ t)) ↔ (if Y.I 7 j < 0 then 0 else Y.L 9 j) ≤ t ∧ t ≤ 1000000000
  rcases h.2.1 with z | z
  · have hn : Y.I 7 j < 0 := by rw [z]; decide
    rw [if_pos hn]
    exact ⟨fun q => ⟨q.1, q.2.1⟩, fun q => ⟨q.1, q.2, Or.inl (h.1.trans z)⟩⟩
  · rw [if_neg z]
    have h9 := hR.2.2.2.2.2.2.2.1 j hj z
    have e9 := (h.2.2.1 z).2
    constructor
    · rintro ⟨q1, q2, q3 | q3⟩
      · exact absurd (show Y.I 7 j < 0 by rw [← h.1, q3]; decide) z
      · exact ⟨by rw [← e9]; exact q3, q2⟩
    · rintro ⟨q1, q2⟩
      exact ⟨Int64.le_trans h9 q1, q2, Or.inr (by rw [e9]; exact q1)⟩
theorem rEnd_o (I : Nat → Nat → Int32) (j : Nat) {i : Nat} (h : i ≠ j) (k : Nat) : rEnd I j k i = I k i := rEnd_ne I j h k
theorem f_found (hR : Y.ri m) (h : CrF X Y) {i : Int32} {t : Int64} (h1 : oXfound i t X r1 X') (h2 : oMfound i t Y r2 Y') : CrF X' Y' ∧ r1 = r2 := by
  have hs0 := h.s0
  rcases h1 with ⟨n1, rfl, rfl⟩ | ⟨j, hj, rfl, h1⟩
  · rcases h2 with ⟨_, rfl, rfl⟩ | ⟨j', hj', e, _⟩
    · exact ⟨hs0, rfl⟩
    · exact absurd e (n1 j' (by omega))
  · rcases h2 with ⟨n2, _⟩ | ⟨j', hj', e, h2⟩
    · exact absurd rfl (n2 j (by omega))
    · have ej : j = j' := (nI_eq (by omega) (by omega)).mp e
      subst ej
      have hi := h.2.2.1 j hj
      have ht := a_time hR hj hi t
      have hlo : (X.v j).2.2.2.2.2.2.2 = Y.I 14 j := hi.2.2.2.2.2.2.2.1
      rcases h1 with ⟨q1, rfl, rfl⟩ | ⟨q1, q2, rfl, rfl⟩ | ⟨q1, q2, rfl, rfl⟩
      · rcases h2 with ⟨_, rfl, rfl⟩ | ⟨z, _⟩ | ⟨z, _⟩
        · exact ⟨hs0, rfl⟩
        · exact absurd (ht.mpr z) q1
        · exact absurd (ht.mpr z) q1
      · rcases h2 with ⟨z, _⟩ | ⟨_, _, rfl, rfl⟩ | ⟨_, z, _⟩
        · exact absurd (ht.mp q1) z
        · exact ⟨hs0, rfl⟩
        · exact absurd (hlo.symm.trans q2) z
      · rcases h2 with ⟨z, _⟩ | ⟨_, z, _⟩ | ⟨_, _, rfl, rfl⟩
        · exact absurd (ht.mp q1) z
        · exact absurd (hlo.trans z) q2
        · obtain ⟨g1, g2, g3, g4, g5, g6⟩ := h
          have e : ∀ k, k ≠ 10 → k ≠ 13 → k ≠ 14 → rEnd Y.I j k = Y.I k := fun k a b c => rEnd_f Y.I j ⟨a, b, c⟩
          refine ⟨⟨g1.eq rfl rfl rfl rfl rfl rfl (e 2 (by decide) (by decide) (by decide)) (e 3 (by decide) (by decide) (by decide)) (e 4 (by decide) (by decide) (by decide)) (e 6 (by decide) (by decide) (by decide)) (e 25 (by decide) (by decide) (by decide)) (up2_f (k := 9) (k' := 5) Y.L j t (by decide)), g2.eq rfl rfl (su16 Y.S 0 0 (by decide)) (e 15 (by decide) (by decide) (by decide)), fun i hi2 => ?_, g4.eq rfl rfl (e 20 (by decide) (by decide) (by decide)) (e 21 (by decide) (by decide) (by decide)), g5.eq rfl rfl rfl (up2_f (k := 9) (k' := 19) Y.L j t (by decide)), g6.eq rfl rfl⟩, rfl⟩
          show itR (va_up X.v j ((X.v j).1, (X.v j).2.1, t, 0, (X.v j).2.2.2.2.1, (X.v j).2.2.2.2.2.1, 0, 0) i) (rEnd Y.I j) (up2 Y.L 9 j t) i
          by_cases z : i = j
          · subst z
            rw [va_up_self]
            obtain ⟨a1, a2, a3, a4, a5, a6, a7, a8, a9, a10⟩ := hi
            have e7 := congrFun (e 7 (by decide) (by decide) (by decide)) i
            have e11 := congrFun (e 11 (by decide) (by decide) (by decide)) i
            have e8 : up2 Y.L 9 i t 8 i = Y.L 8 i := by rw [up2_f _ _ _ (by decide)]
            have e12 : up2 Y.L 9 i t 12 i = Y.L 12 i := by rw [up2_f _ _ _ (by decide)]
            obtain ⟨b1, b2, b3⟩ := rEnd_j Y.I i
            unfold itR
            rw [e7, e11, e8, e12, b1, b2, b3, up2_s]
            exact ⟨a1, a2, fun y => ⟨(a3 y).1, rfl⟩, rfl, a5, a6, rfl, rfl, ⟨0, by decide, rfl⟩, a10⟩
          · exact (g3 i hi2).eq (va_up_ne _ _ z) (rEnd_o _ _ z _) (rEnd_o _ _ z _) (rEnd_o _ _ z _) (rEnd_o _ _ z _) (rEnd_o _ _ z _) (up2_o _ _ _ _ _ z) (up2_o _ _ _ _ _ z) (up2_o _ _ _ _ _ z)
end FULL
