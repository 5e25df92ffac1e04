/-! AN EVENT ON BOTH SIDES -/
def evV (X : XV) (j a tt : Nat) : XV := ((X.a, X.ad, X.at0, X.fa, X.kr, X.kf, X.kt, X.c, X.cf, X.ct, X.ch, X.cd, X.R, X.fr, X.fh, X.F, X.fb, X.fl, X.fd, X.fs, va_up X.v j (itV (X.v j) (nI a) (lN tt)), X.ck) : XV)
def evVY (Y : RV) (j a tt : Nat) : RV := ((Y.ad, up2 (rEnd Y.I j) 7 j (nI a), evL Y.I Y.L j (lN tt), va_up Y.S 0 0, Y.ck, Y.nr, Y.nf, Y.na, Y.cn, Y.bg, Y.lt, Y.wi, Y.fw) : RV)
def evFX (X : XV) (j a tt k : Nat) : XV := ((X.a, X.ad, X.at0, X.fa, X.kr, lvl X.cf X.kf, X.kt, X.c, X.cf + 1, X.ct, X.ch, X.cd, va_up X.R k (rowF (X.R k)), va_up X.fr X.cf k, X.fh, X.F, X.fb, X.fl, X.fd, X.fs, va_up X.v j (itV (X.v j) (nI a) (lN tt)), X.ck) : XV)
def evFY (Y : RV) (j a tt k : Nat) : RV := ((Y.ad, up2 (up2 (rEnd Y.I j) 7 j (nI a)) 25 Y.nf (nI k), evL Y.I Y.L j (lN tt), va_up (va_up Y.S 0 0) 24 (nI (Y.nf + 1)), Y.ck, Y.nr, Y.nf + 1, Y.na, Y.cn, Y.bg, Y.lt, Y.wi, va_up Y.fw Y.nf k) : RV)
def evBX (X : XV) (j p a tt k : Nat) : XV := ((X.a, X.ad, X.at0, X.fa, X.kr, X.kf, X.kt, X.c, X.cf, X.ct, X.ch, X.cd, X.R, X.fr, X.fh, X.F, va_up X.fb p (X.fb p + 1), X.fl, X.fd, X.fs, va_up X.v j (itX (itV (X.v j) (nI a) (lN tt)) (X.R k).1 (nI p) (dA X.fh (lN tt) (X.R k).2.2.2.2.1 X.ch)), X.ck) : XV)
def evBY (Y : RV) (j p a tt k : Nat) : RV := ((Y.ad, up2 (up2 (up2 (up2 (rEnd Y.I j) 7 j (nI a)) 10 j (nI k)) 11 j (nI p)) 20 p (nI (Y.bg p + 1)), up2 (evL Y.I Y.L j (lN tt)) 12 j (lN (bh (Y.I 15) (Y.wi k + 20002) tt (Y.wi k))), va_up Y.S 0 0, Y.ck, Y.nr, Y.nf, Y.na, Y.cn, va_up Y.bg p (Y.bg p + 1), Y.lt, Y.wi, Y.fw) : RV)
def evDX (X : XV) (j : Nat) (fd2 fs2 : Nat → Int32) : XV := ((X.a, X.ad, X.at0, X.fa, X.kr, X.kf, X.kt, X.c, X.cf, X.ct, X.ch, X.cd + 1, X.R, X.fr, X.fh, X.F, X.fb, X.fl, fd2, fs2, va_up X.v j (itD (X.v j)), X.ck) : XV)
def evDY (Y : RV) (j v tt : Nat) : RV := ((Y.ad, up2 (up2 (up2 (rEnd Y.I j) 23 (4200 * v + Y.cn v) (evD Y.I Y.L j (lN tt))) 22 v (nI (Y.cn v + 1))) 7 j (-1), evL Y.I Y.L j (lN tt), va_up Y.S 0 0, Y.ck, Y.nr, Y.nf, Y.na, va_up Y.cn v (Y.cn v + 1), Y.bg, Y.lt, Y.wi, Y.fw) : RV)
def evOut (X X' : XV) (Y Y' : RV) (j p a v tt : Nat) : Prop :=
  (a = 9 ∧ ∃ fd2 fs2, ins2 X.fd X.fs fd2 fs2 X.cd (if (X.v j).1 = (-1) then 0 else ((lN tt - (X.v j).2.1) / 86400).toInt32) (nI v) ∧ X' = evDX X j fd2 fs2 ∧ Y' = evDY Y j v tt) ∨ (¬ a = 9 ∧ X' = evV X j a tt ∧ Y' = evVY Y j a tt) ∨ (¬ a = 9 ∧ ∃ k, k < X.c ∧ (X.R k).2.2.2.2.2.2 = 0 ∧ X' = evFX X j a tt k ∧ Y' = evFY Y j a tt (k + 1)) ∨ (¬ a = 9 ∧ ∃ k, k < X.c ∧ X' = evBX X j p a tt k ∧ Y' = evBY Y j p a tt (k + 1))
theorem row_iff {X : XV} {Y : RV} {k : Nat} {w : rowS} (h : rowR w Y k) (st pl sv : Int32) : rowIs w st pl sv ↔ rowOk Y.I st pl sv (k + 1) := by
  obtain ⟨_, h2, h3, h4, _, _, h7, h8⟩ := h
  show (w.2.1 = st ∧ (w.2.2.1 = (-1) ∨ w.2.2.1 = pl) ∧ (w.2.2.2.1 = (-1) ∨ w.2.2.2.1 = sv)) ↔ (Y.I 2 (k + 1) = st ∧ (Y.I 3 (k + 1) < 0 ∨ Y.I 3 (k + 1) = pl) ∧ (Y.I 4 (k + 1) < 0 ∨ Y.I 4 (k + 1) = sv))
  rw [h2, h3, h4]
  have q : ∀ {x : Int32}, (x = (-1) ∨ ¬ x < 0) → (x = (-1) ↔ x < 0) := fun hx => ⟨fun z => by rw [z]; decide, fun z => hx.resolve_right (fun y => y z)⟩
  rw [q h7, q h8]
theorem ev_match {m : Nat} {X X' : XV} {Y Y' : RV} {r1 r2 i st pl sv : Int32} {t : Int64} (hC : X.ci m) (hR : Y.ri m) (hc : CrR X Y) (hI : CrI X Y) (h1 : oXevent i st pl sv t X r1 X') (h2 : oMevent i st pl sv t Y r2 Y') : r1 = r2 ∧ ((X' = X ∧ Y' = Y.s0) ∨ ∃ j p a v tt, j < 200 ∧ p < 50 ∧ a ≤ 9 ∧ v ≤ 4 ∧ tt ≤ 1000000000 ∧ evOut X X' Y Y' j p a v tt) := by
  rcases h1 with ⟨n1, rfl, rfl⟩ | ⟨j, p, hj, hp, rfl, rfl, h1⟩
  · rcases h2 with ⟨_, rfl, rfl⟩ | ⟨j', p', hj', hp', e1, e2, _⟩
    · exact ⟨rfl, Or.inl ⟨rfl, rfl⟩⟩
    · exact absurd ⟨e1, e2⟩ (n1 j' p' (by omega) (by omega))
  · rcases h2 with ⟨n2, _⟩ | ⟨j', p', hj', hp', e1, e2, h2⟩
    · exact absurd ⟨j, p, by omega, by omega, rfl, rfl⟩ n2
    have ej : j = j' := (nI_eq (by omega) (by omega)).mp e1
    have ep : p = p' := (nI_eq (by omega) (by omega)).mp e2
    subst ej
    subst ep
    have ht := a_time hR hj (hI j hj) t
    rcases h1 with ⟨n1, rfl, rfl⟩ | ⟨y1, h1⟩
    · rcases h2 with ⟨_, rfl, rfl⟩ | ⟨a, v, tt, ha, hv, htt, e3, e4, e5, hrt, _⟩
      · exact ⟨rfl, Or.inl ⟨rfl, rfl⟩⟩
      · have q1 := n_a9.mpr ⟨a, ha, e3⟩
        exact absurd ⟨q1.1, q1.2, n_v5.mpr ⟨v, hv, e4⟩, ht.mpr hrt⟩ n1
    · rcases h2 with ⟨n2, _⟩ | ⟨a, v, tt, ha, hv, htt, rfl, rfl, rfl, hrt, h2⟩
      · obtain ⟨a, ha, ea⟩ := n_a9.mp ⟨y1.1, y1.2.1⟩
        obtain ⟨v, hv, ev⟩ := n_v5.mp y1.2.2.1
        exact absurd ⟨⟨a, v, ha, hv, ea, ev⟩, ht.mp y1.2.2.2⟩ n2
      suffices hs : r1 = r2 ∧ evOut X X' Y Y' j p a v tt from ⟨hs.1, Or.inr ⟨j, p, a, v, tt, hj, hp, ha, hv, htt, hs.2⟩⟩
      have e9 : nI a = 9 ↔ a = 9 := nI_eq (b := 9) (by omega) (by decide)
      have hrow : ∀ k, k < X.c → (rowIs (X.R k) (nI a) (nI p) (nI v) ↔ rowOk Y.I (nI a) (nI p) (nI v) (k + 1)) := fun k hk => row_iff (X := X) (hc.2.2.2 k hk).1 _ _ _
      have hcn := hc.1
      rcases h1 with ⟨q1, rfl, fd2, fs2, q2, rfl⟩ | ⟨q1, q2, rfl, rfl⟩ | ⟨q1, k, hk, q2, q3, h1⟩
      · rcases h2 with ⟨_, rfl, rfl⟩ | ⟨z, _⟩
        · exact ⟨rfl, Or.inl ⟨e9.mp q1, fd2, fs2, q2, rfl, rfl⟩⟩
        · exact absurd (e9.mp q1) z
      · rcases h2 with ⟨z, _⟩ | ⟨z, k', hk', hf, h2⟩
        · exact absurd (e9.mpr z) q1
        have no : ¬ 1 ≤ k' := fun w => by
          rcases hf with ⟨hf, _⟩ | ⟨_, hok, _⟩
          · omega
          · have := (hrow (k' - 1) (by omega)).mpr (by rw [show k' - 1 + 1 = k' by omega]; exact hok)
            exact q2 (k' - 1) (by omega) this
        rcases h2 with ⟨_, rfl, rfl⟩ | ⟨w, _⟩ | ⟨w, _⟩
        · exact ⟨rfl, Or.inr (Or.inl ⟨z, rfl, rfl⟩)⟩
        · exact absurd w no
        · exact absurd w no
      · rcases h2 with ⟨z, _⟩ | ⟨z, k', hk', hf, h2⟩
        · exact absurd (e9.mpr z) q1
        have ek : k' = k + 1 := by
          have hok1 := (hrow k hk).mp q2
          rcases hf with ⟨_, hn⟩ | ⟨hk1, hok, hmin⟩
          · exact absurd hok1 (hn (k + 1) (by omega) (by omega))
          · rcases Nat.lt_trichotomy k' (k + 1) with y | y | y
            · have := (hrow (k' - 1) (by omega)).mpr (by rw [show k' - 1 + 1 = k' by omega]; exact hok)
              exact absurd this (q3 (k' - 1) (by omega))
            · exact y
            · exact absurd hok1 (hmin (k + 1) (by omega) y)
        subst ek
        obtain ⟨hr, hhf⟩ := hc.2.2.2 k hk
        have hmem : (∃ z, z < Y.nf ∧ Y.I 25 z = nI (k + 1)) ↔ ∃ z, z < X.cf ∧ X.fr z = k := by
          have hfc := hc.2.1
          have h40 := hR.1.2
          have hnr : ∀ z, z < X.cf → X.fr z + 1 < 2 ^ 31 := fun z hz => by have := hC.2.1.2.1 z hz; have := hC.1.1; omega
          constructor
          · rintro ⟨z, hz, e⟩
            rw [hc.2.2.1 z (by omega), nI_eq (hnr z (by omega)) (by omega)] at e
            exact ⟨z, by omega, by omega⟩
          · rintro ⟨z, hz, e⟩
            exact ⟨z, by omega, by rw [hc.2.2.1 z hz, e]⟩
        rcases h1 with ⟨x1, rfl, h1⟩ | ⟨x1, rfl, rfl⟩
        · rcases h2 with ⟨w, _⟩ | ⟨_, w, rfl, h2⟩ | ⟨_, w, _⟩
          · omega
          · refine ⟨by rw [hr.1], ?_⟩
            rcases h1 with ⟨x2, rfl⟩ | ⟨x2, rfl⟩
            · rcases h2 with ⟨w2, rfl⟩ | ⟨w2, rfl⟩
              · exact Or.inr (Or.inl ⟨z, rfl, rfl⟩)
              · exact absurd (hhf.mpr (fun y hy e => w2 (hmem.mpr ⟨y, hy, e⟩))) x2
            · rcases h2 with ⟨w2, rfl⟩ | ⟨w2, rfl⟩
              · obtain ⟨y, hy, e⟩ := hmem.mp w2
                exact absurd e (hhf.mp x2 y hy)
              · exact Or.inr (Or.inr (Or.inl ⟨z, k, hk, x2, rfl, rfl⟩))
          · exact absurd (hr.2.2.2.2.2.1.trans w) x1
        · rcases h2 with ⟨w, _⟩ | ⟨_, w, _⟩ | ⟨_, w, rfl, rfl⟩
          · omega
          · exact absurd (hr.2.2.2.2.2.1.symm.trans x1) w
          · exact ⟨hr.1, Or.inr (Or.inr (Or.inr ⟨z, k, hk, rfl, rfl⟩))⟩
