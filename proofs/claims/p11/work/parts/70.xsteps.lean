/-! THE CLASS's STEPS: each call, from a state to a state -/
abbrev XV : Type := (Nat → Nat) × (Nat → Nat) × (Nat → Nat) × (Nat → Nat) × (Nat) × (Nat) × (Nat) × (Nat) × (Nat) × (Nat) × (Nat) × (Nat) × (Nat → rowS) × (Nat → Nat) × (Nat → Int64) × (Nat → Nat → Int32) × (Nat → Int32) × (Nat → Int32) × (Nat → Int32) × (Nat → Int32) × (Nat → itS) × (Int64)
abbrev XV.a (X : XV) : Nat → Nat := X.1
abbrev XV.ad (X : XV) : Nat → Nat := X.2.1
abbrev XV.at0 (X : XV) : Nat → Nat := X.2.2.1
abbrev XV.fa (X : XV) : Nat → Nat := X.2.2.2.1
abbrev XV.kr (X : XV) : Nat := X.2.2.2.2.1
abbrev XV.kf (X : XV) : Nat := X.2.2.2.2.2.1
abbrev XV.kt (X : XV) : Nat := X.2.2.2.2.2.2.1
abbrev XV.c (X : XV) : Nat := X.2.2.2.2.2.2.2.1
abbrev XV.cf (X : XV) : Nat := X.2.2.2.2.2.2.2.2.1
abbrev XV.ct (X : XV) : Nat := X.2.2.2.2.2.2.2.2.2.1
abbrev XV.ch (X : XV) : Nat := X.2.2.2.2.2.2.2.2.2.2.1
abbrev XV.cd (X : XV) : Nat := X.2.2.2.2.2.2.2.2.2.2.2.1
abbrev XV.R (X : XV) : Nat → rowS := X.2.2.2.2.2.2.2.2.2.2.2.2.1
abbrev XV.fr (X : XV) : Nat → Nat := X.2.2.2.2.2.2.2.2.2.2.2.2.2.1
abbrev XV.fh (X : XV) : Nat → Int64 := X.2.2.2.2.2.2.2.2.2.2.2.2.2.2.1
abbrev XV.F (X : XV) : Nat → Nat → Int32 := X.2.2.2.2.2.2.2.2.2.2.2.2.2.2.2.1
abbrev XV.fb (X : XV) : Nat → Int32 := X.2.2.2.2.2.2.2.2.2.2.2.2.2.2.2.2.1
abbrev XV.fl (X : XV) : Nat → Int32 := X.2.2.2.2.2.2.2.2.2.2.2.2.2.2.2.2.2.1
abbrev XV.fd (X : XV) : Nat → Int32 := X.2.2.2.2.2.2.2.2.2.2.2.2.2.2.2.2.2.2.1
abbrev XV.fs (X : XV) : Nat → Int32 := X.2.2.2.2.2.2.2.2.2.2.2.2.2.2.2.2.2.2.2.1
abbrev XV.v (X : XV) : Nat → itS := X.2.2.2.2.2.2.2.2.2.2.2.2.2.2.2.2.2.2.2.2.1
abbrev XV.ck (X : XV) : Int64 := X.2.2.2.2.2.2.2.2.2.2.2.2.2.2.2.2.2.2.2.2.2
abbrev XV.ci (X : XV) (m : Nat) : Prop := CI m X.kr X.kf X.kt X.c X.cf X.ct X.ch X.cd X.R X.fr X.F X.fb X.fl X.v
def XS (g : mm_G) (M : mm_M) (x m : Nat) (X : XV) : Prop := X.a 0 = x ∧ Xi g M X.a X.ad X.at0 X.fa X.kr X.kf X.kt X.c X.cf X.ct X.ch X.cd X.R X.fr X.fh X.F X.fb X.fl X.fd X.fs X.v X.ck ∧ X.ci m
theorem XS.kept {g : mm_G} {M M' : mm_M} {x m : Nat} {X : XV} (h : XS g M x m X) (hs : ∀ u, 0 < u → u < 19 → mm_same u M M') : XS g M' x m X := ⟨h.1, h.2.1.kept hs, h.2.2⟩
theorem XS.more {g : mm_G} {M : mm_M} {x m : Nat} {X : XV} (h : XS g M x m X) : XS g M x (m + 1) X := ⟨h.1, h.2.1, h.2.2.more⟩
theorem XS.ob {g : mm_G} {M : mm_M} {x m : Nat} {X : XV} (h : XS g M x m X) : ∃ fs, M x = some (ob 1 0 fs) := ⟨_, h.1 ▸ h.2.1.x⟩
theorem alM_lvl (c k : Nat) : alM c (cp k) = cp (lvl c k) := by
  unfold alM lvl
  by_cases z : c < cp k
  · rw [if_pos z, if_pos z]
  · rw [if_neg z, if_neg z]; rfl
theorem alC_1 (c n : Nat) : alC c n ≤ 1 := by unfold alC; split <;> omega
theorem cp_6 : cp 6 = 73 := by decide
theorem alS_73 {c k : Nat} (h : k ≤ 5) : alS c (cp k) ≤ 73 := by
  have : alN (cp k) ≤ 73 := by
    have := cp_le (show k + 1 ≤ 6 by omega)
    rw [cp_6] at this
    exact this
  unfold alS; split <;> omega
abbrev xCond (st pl sv : Int32) (wi : Int64) : Prop := (0 ≤ st ∧ st < 9) ∧ (pl = (-1) ∨ (0 ≤ pl ∧ pl < 50)) ∧ (sv = (-1) ∨ (0 ≤ sv ∧ sv < 5)) ∧ (0 ≤ wi ∧ wi ≤ 10000000)
def oXrule (st pl sv : Int32) (wi : Int64) (fl : Int32) (X : XV) (r : Int32) (X' : XV) : Prop := (¬ xCond st pl sv wi ∧ r = (-102) ∧ X' = X) ∨ (xCond st pl sv wi ∧ 40 ≤ X.c ∧ r = (-104) ∧ X' = X) ∨ (xCond st pl sv wi ∧ X.c < 40 ∧ r = nI (X.c + 1) ∧ ∃ qa, X' = ((X.a, va_up X.ad X.c qa, X.at0, X.fa, lvl X.c X.kr, X.kf, X.kt, X.c + 1, X.cf, X.ct, X.ch, X.cd, va_up X.R X.c (nI (X.c + 1), st, pl, sv, wi, fl, 0), X.fr, X.fh, X.F, X.fb, X.fl, X.fd, X.fs, X.v, X.ck) : XV))
def oXhol (t : Int64) (X : XV) (r : Int32) (X' : XV) : Prop := (¬ (0 ≤ t ∧ t ≤ 20000) ∧ r = (-102) ∧ X' = X) ∨ ((0 ≤ t ∧ t ≤ 20000) ∧ (((∃ j, j < X.ch ∧ X.fh j = t) ∧ r = 0 ∧ X' = X) ∨ ((¬ ∃ j, j < X.ch ∧ X.fh j = t) ∧ 100 ≤ X.ch ∧ r = (-104) ∧ X' = X) ∨ ((¬ ∃ j, j < X.ch ∧ X.fh j = t) ∧ X.ch < 100 ∧ r = 1 ∧ ∃ f', insL X.fh f' X.ch t ∧ X' = ((X.a, X.ad, X.at0, X.fa, X.kr, X.kf, X.kt, X.c, X.cf, X.ct, X.ch + 1, X.cd, X.R, X.fr, f', X.F, X.fb, X.fl, X.fd, X.fs, X.v, X.ck) : XV))))
abbrev xTime (w : itS) (t : Int64) : Prop := 0 ≤ t ∧ t ≤ 1000000000 ∧ (w.1 = (-1) ∨ w.2.2.1 ≤ t)
def oXfound (i : Int32) (t : Int64) (X : XV) (r : Int32) (X' : XV) : Prop := ((∀ j, j < 200 → i ≠ nI j) ∧ r = (-101) ∧ X' = X) ∨ ∃ j, j < 200 ∧ i = nI j ∧ ((¬ xTime (X.v j) t ∧ r = (-102) ∧ X' = X) ∨ (xTime (X.v j) t ∧ (X.v j).2.2.2.2.2.2.2 = 0 ∧ r = 0 ∧ X' = X) ∨ (xTime (X.v j) t ∧ ¬ (X.v j).2.2.2.2.2.2.2 = 0 ∧ r = 1 ∧ X' = ((X.a, X.ad, X.at0, X.fa, X.kr, X.kf, X.kt, X.c, X.cf, X.ct, X.ch, X.cd, X.R, X.fr, X.fh, X.F, X.fb, X.fl, X.fd, X.fs, va_up X.v j ((X.v j).1, (X.v j).2.1, t, 0, (X.v j).2.2.2.2.1, (X.v j).2.2.2.2.2.1, 0, 0), X.ck) : XV)))
def oXtick (t : Int64) (X : XV) (r : Int32) (X' : XV) : Prop := (¬ (X.ck ≤ t ∧ t ≤ 2000000000) ∧ r = (-102) ∧ X' = X) ∨ ((X.ck ≤ t ∧ t ≤ 2000000000) ∧ ∃ s at2, s = xTk t (X.v, X.fl, X.ct, X.F, X.kt) 200 ∧ r = nI s.2.2.1 - nI X.ct ∧ X' = ((X.a, X.ad, at2, X.fa, X.kr, X.kf, s.2.2.2.2, X.c, X.cf, s.2.2.1, X.ch, X.cd, X.R, X.fr, X.fh, s.2.2.2.1, X.fb, s.2.1, X.fd, X.fs, s.1, t) : XV))
def oXevent (i st pl sv : Int32) (t : Int64) (X : XV) (r : Int32) (X' : XV) : Prop := ((∀ k q, k < 200 → q < 50 → ¬ (i = nI k ∧ pl = nI q)) ∧ r = (-101) ∧ X' = X) ∨ ∃ j p, j < 200 ∧ p < 50 ∧ i = nI j ∧ pl = nI p ∧ ((¬ (0 ≤ st ∧ st ≤ 9 ∧ (0 ≤ sv ∧ sv < 5) ∧ xTime (X.v j) t) ∧ r = (-102) ∧ X' = X) ∨ ((0 ≤ st ∧ st ≤ 9 ∧ (0 ≤ sv ∧ sv < 5) ∧ xTime (X.v j) t) ∧ ((st = 9 ∧ r = 0 ∧ ∃ fd2 fs2, ins2 X.fd X.fs fd2 fs2 X.cd (if (X.v j).1 = (-1) then 0 else ((t - (X.v j).2.1) / 86400).toInt32) sv ∧ X' = ((X.a, X.ad, X.at0, X.fa, X.kr, X.kf, X.kt, X.c, X.cf, X.ct, X.ch, X.cd + 1, X.R, X.fr, X.fh, X.F, X.fb, X.fl, fd2, fs2, va_up X.v j (itD (X.v j)), X.ck) : XV)) ∨ (¬ st = 9 ∧ (∀ k, k < X.c → ¬ rowIs (X.R k) st (nI p) sv) ∧ r = 0 ∧ X' = ((X.a, X.ad, X.at0, X.fa, X.kr, X.kf, X.kt, X.c, X.cf, X.ct, X.ch, X.cd, X.R, X.fr, X.fh, X.F, X.fb, X.fl, X.fd, X.fs, va_up X.v j (itV (X.v j) st t), X.ck) : XV)) ∨ (¬ st = 9 ∧ ∃ k, k < X.c ∧ rowIs (X.R k) st (nI p) sv ∧ (∀ z, z < k → ¬ rowIs (X.R z) st (nI p) sv) ∧ ((¬ (X.R k).2.2.2.2.2.1 = 0 ∧ r = - (X.R k).1 ∧ ((¬ (X.R k).2.2.2.2.2.2 = 0 ∧ X' = ((X.a, X.ad, X.at0, X.fa, X.kr, X.kf, X.kt, X.c, X.cf, X.ct, X.ch, X.cd, X.R, X.fr, X.fh, X.F, X.fb, X.fl, X.fd, X.fs, va_up X.v j (itV (X.v j) st t), X.ck) : XV)) ∨ ((X.R k).2.2.2.2.2.2 = 0 ∧ X' = ((X.a, X.ad, X.at0, X.fa, X.kr, lvl X.cf X.kf, X.kt, X.c, X.cf + 1, X.ct, X.ch, X.cd, va_up X.R k (rowF (X.R k)), va_up X.fr X.cf k, X.fh, X.F, X.fb, X.fl, X.fd, X.fs, va_up X.v j (itV (X.v j) st t), X.ck) : XV)))) ∨ ((X.R k).2.2.2.2.2.1 = 0 ∧ r = (X.R k).1 ∧ X' = ((X.a, X.ad, X.at0, X.fa, X.kr, X.kf, X.kt, X.c, X.cf, X.ct, X.ch, X.cd, X.R, X.fr, X.fh, X.F, va_up X.fb p (X.fb p + 1), X.fl, X.fd, X.fs, va_up X.v j (itX (itV (X.v j) st t) (X.R k).1 (nI p) (dA X.fh t (X.R k).2.2.2.2.1 X.ch)), X.ck) : XV)))))))
def oXalarm (i u : Int32) (X : XV) (r : Int32) (X' : XV) : Prop := X' = X ∧ (((∀ j v, j < X.ct → v < 5 → ¬ (i = nI j ∧ u = nI v)) ∧ r = (-1)) ∨ ∃ j v, j < X.ct ∧ v < 5 ∧ i = nI j ∧ u = nI v ∧ r = X.F j v)
def oXstate (i : Int32) (X : XV) (r : Int32) (X' : XV) : Prop := X' = X ∧ (((∀ j, j < 200 → i ≠ nI j) ∧ r = (-101)) ∨ ∃ j, j < 200 ∧ i = nI j ∧ r = if ¬ (X.v j).2.2.2.2.2.2.2 = 0 then (X.v j).1 + 200 else if ¬ (X.v j).2.2.2.2.2.2.1 = 0 then (X.v j).1 + 100 else (X.v j).1)
def oXcluster (i u : Int32) (X : XV) (r : Int32) (X' : XV) : Prop := X' = X ∧ (((∀ j, j < 50 → ¬ (3 ≤ X.fl j ∧ nI (cbN X.fb X.fl j 50) = i)) ∧ r = (-1)) ∨ ∃ k, k < 50 ∧ (3 ≤ X.fl k ∧ nI (cbN X.fb X.fl k 50) = i) ∧ (∀ j, j < k → ¬ (3 ≤ X.fl j ∧ nI (cbN X.fb X.fl j 50) = i)) ∧ ((u = nI 0 ∧ r = nI k) ∨ (u = nI 1 ∧ r = X.fl k) ∨ (u = nI 2 ∧ r = X.fb k) ∨ ((∀ v, v < 3 → u ≠ nI v) ∧ r = (-1))))
def oXfailing (i : Int32) (X : XV) (r : Int32) (X' : XV) : Prop := X' = X ∧ (((∀ j, j < X.cf → i ≠ nI j) ∧ r = 0) ∨ ∃ j, j < X.cf ∧ i = nI j ∧ r = (X.R (X.fr j)).1)
def oXperc (i th : Int32) (X : XV) (r : Int64) (X' : XV) : Prop := X' = X ∧ ((¬ ((0 ≤ i ∧ i < 5) ∧ 0 ≤ th ∧ th ≤ 1000) ∧ r = (-102)) ∨ (((0 ≤ i ∧ i < 5) ∧ 0 ≤ th ∧ th ≤ 1000) ∧ ∃ rd rk0, r = rd.toInt64 ∧ rk0 = (if ((nI (cnt X.fs i X.cd) * th + 1000 - 1) / 1000) < 1 then 1 else ((nI (cnt X.fs i X.cd) * th + 1000 - 1) / 1000)) ∧ ((∃ j, j < X.cd ∧ (X.fs j = i ∧ nI (cnt X.fs i (j + 1)) = rk0) ∧ rd = X.fd j) ∨ ((∀ j, j < X.cd → ¬ (X.fs j = i ∧ nI (cnt X.fs i (j + 1)) = rk0)) ∧ rd = (-1)))))
def oXshare (i sd : Int32) (X : XV) (r : Int32) (rs : Int64) : Prop := (¬ (0 ≤ i ∧ i < 50) ∧ r = 0 ∧ rs = (-101)) ∨ ((0 ≤ i ∧ i < 50) ∧ ¬ (sd = 0 ∨ sd = 1) ∧ r = 0 ∧ rs = (-102)) ∨ ∃ p nb nl, p < 50 ∧ i = nI p ∧ (sd = 0 ∨ sd = 1) ∧ X.fb p = nI nb ∧ X.fl p = nI nl ∧ nb < 2 ^ 20 ∧ nl < 2 ^ 20 ∧ ((nb = 0 ∧ r = 1) ∨ (0 < nb ∧ r = 0 ∧ rs = (if sd = 0 then (nI (nl / Nat.gcd nl nb)).toInt64 else (nI (nb / Nat.gcd nl nb)).toInt64)))
section XST
variable {l : Launch} {g : mm_G} {M : mm_M} {x m : Nat} {X : XV}
abbrev XT {α : Type} (g : mm_G) (M : mm_M) (x m : Nat) (X : XV) (A : Nat → Nat → (α → mm_M → Prop) → Prop) (o : XV → α → XV → Prop) : Prop := ∃ kc ks P, (kc ≤ 420 ∧ ks ≤ 3700) ∧ A kc ks P ∧ ∀ r M', P r M' → ∃ X', o X r X' ∧ XS g M' x (m + 1) X' ∧ ∀ u, 19 ≤ u → mm_same u M M'
theorem x_rule (h : XS g M x m X) (st pl sv : Int32) (wi : Int64) {fl : Int32} (hfl : bo fl) : XT g M x m X (fun kc ks P => Ci l g y_X_rule b_X_rule 7 .int (rk 8 198 kc ks) M [.ref x, .int st, .int pl, .int sv, .long wi, .int fl] P) (oXrule st pl sv wi fl) := by
  obtain ⟨rfl, hX, hC⟩ := h
  refine ⟨_, _, _, ⟨?_, ?_⟩, c_X_rule l g hX.x hX.rl (cp_19 (Nat.le_trans hC.1.2 (by decide))) hX.ex st pl sv wi hfl, fun r M' hp => ?_⟩
  · have := alC_1 X.c (cp X.kr); omega
  · have := alS_73 (c := X.c) hC.1.2; omega
  rcases hp with ⟨hn, rfl, rfl⟩ | ⟨hc, (⟨h1, rfl, rfl⟩ | ⟨h1, rfl, qa, h2, h3, h4, h5⟩)⟩
  · exact ⟨X, Or.inl ⟨hn, rfl, rfl⟩, ⟨rfl, hX, hC.more⟩, fun u _ => mm_same.rf⟩
  · exact ⟨X, Or.inr (Or.inl ⟨hc, h1, rfl, rfl⟩), ⟨rfl, hX, hC.more⟩, fun u _ => mm_same.rf⟩
  · rw [alM_lvl] at h4
    exact ⟨_, Or.inr (Or.inr ⟨hc, h1, rfl, qa, rfl⟩), ⟨rfl, hX.upR (w := (nI (X.c + 1), st, pl, sv, wi, fl, 0)) h2 h3 h4 h5, hC.rule h1 _⟩, fun u hu => h5 u (by omega)⟩
theorem x_hol (h : XS g M x m X) (t : Int64) : XT g M x m X (fun kc ks P => Ci l g y_X_holiday b_X_holiday 3 .int (rk 2 46 kc ks) M [.ref x, .long t] P) (oXhol t) := by
  obtain ⟨rfl, hX, hC⟩ := h
  refine ⟨_, _, _, ⟨Nat.zero_le _, Nat.zero_le _⟩, c_X_holiday l g hX.x hX.hl hC.2.2.1 t, fun r M' hp => ?_⟩
  rcases hp with ⟨hn, rfl, rfl⟩ | ⟨hc, (⟨h1, rfl, rfl⟩ | ⟨h1, h2, rfl, rfl⟩ | ⟨h1, h2, rfl, f', h3, h4, h5⟩)⟩
  · exact ⟨X, Or.inl ⟨hn, rfl, rfl⟩, ⟨rfl, hX, hC.more⟩, fun u _ => mm_same.rf⟩
  · exact ⟨X, Or.inr ⟨hc, Or.inl ⟨h1, rfl, rfl⟩⟩, ⟨rfl, hX, hC.more⟩, fun u _ => mm_same.rf⟩
  · exact ⟨X, Or.inr ⟨hc, Or.inr (Or.inl ⟨h1, h2, rfl, rfl⟩)⟩, ⟨rfl, hX, hC.more⟩, fun u _ => mm_same.rf⟩
  · exact ⟨_, Or.inr ⟨hc, Or.inr (Or.inr ⟨h1, h2, rfl, f', h4, rfl⟩)⟩, ⟨rfl, hX.upH h3 h5, hC.hol h2⟩, fun u hu => h5 u (by omega) (by omega)⟩
theorem x_found (h : XS g M x m X) (i : Int32) (t : Int64) : XT g M x m X (fun kc ks P => Ci l g y_X_found b_X_found 5 .int (rk 2 42 kc ks) M [.ref x, .int i, .long t] P) (oXfound i t) := by
  obtain ⟨rfl, hX, hC⟩ := h
  refine ⟨_, _, _, ⟨Nat.zero_le _, Nat.zero_le _⟩, c_X_found l g hX.x hX.it i t, fun r M' hp => ?_⟩
  rcases hp with ⟨hn, rfl, rfl⟩ | ⟨j, hj, hi, (⟨h1, rfl, rfl⟩ | ⟨h1, h2, rfl, rfl⟩ | ⟨h1, h2, rfl, rfl⟩)⟩
  · exact ⟨X, Or.inl ⟨hn, rfl, rfl⟩, ⟨rfl, hX, hC.more⟩, fun u _ => mm_same.rf⟩
  · exact ⟨X, Or.inr ⟨j, hj, hi, Or.inl ⟨h1, rfl, rfl⟩⟩, ⟨rfl, hX, hC.more⟩, fun u _ => mm_same.rf⟩
  · exact ⟨X, Or.inr ⟨j, hj, hi, Or.inr (Or.inl ⟨h1, h2, rfl, rfl⟩)⟩, ⟨rfl, hX, hC.more⟩, fun u _ => mm_same.rf⟩
  · exact ⟨_, Or.inr ⟨j, hj, hi, Or.inr (Or.inr ⟨h1, h2, rfl, rfl⟩)⟩, ⟨rfl, hX.upI hj ((X.v j).1, (X.v j).2.1, t, 0, (X.v j).2.2.2.2.1, (X.v j).2.2.2.2.2.1, 0, 0), hC.itm j (w := ((X.v j).1, (X.v j).2.1, t, 0, (X.v j).2.2.2.2.1, (X.v j).2.2.2.2.2.1, 0, 0)) (hC.pl hj)⟩, fun u hu => mm_same.up (hX.item hj) (by omega) _⟩
theorem x_tick (h : XS g M x m X) (t : Int64) : XT g M x m X (fun kc ks P => Ci l g y_X_tick b_X_tick 5 .int (rk 9 216 kc ks) M [.ref x, .long t] P) (oXtick t) := by
  obtain ⟨rfl, hX, hC⟩ := h
  refine ⟨_, _, _, ⟨by decide, by decide⟩, c_X_tick l g hX hC.2.2.2.2.1 t, fun r M' hp => ?_⟩
  rcases hp with ⟨hn, rfl, rfl⟩ | ⟨hc, rfl, at2, h1, h2⟩
  · exact ⟨X, Or.inl ⟨hn, rfl, rfl⟩, ⟨rfl, hX, hC.more⟩, fun u _ => mm_same.rf⟩
  · have hT := hC.tick t
    obtain ⟨s, hs⟩ : ∃ s, s = xTk t (X.v, X.fl, X.ct, X.F, X.kt) 200 := ⟨_, rfl⟩
    rw [← hs] at h1 hT ⊢
    exact ⟨_, Or.inr ⟨hc, s, at2, hs, rfl, rfl⟩, ⟨rfl, h1, hT⟩, h2⟩
theorem x_event (h : XS g M x m X) (hm : m < 512) (i st pl sv : Int32) (t : Int64) : XT g M x m X (fun kc ks P => Ci l g y_X_event b_X_event 8 .int (rk 9 217 kc ks) M [.ref x, .int i, .int st, .int pl, .int sv, .long t] P) (oXevent i st pl sv t) := by
  obtain ⟨rfl, hX, hC⟩ := h
  refine ⟨_, _, _, ⟨?_, ?_⟩, c_X_event l g hX (by have := hC.2.2.2.1; omega) hC.2.2.1 hC.2.1.1 i st pl sv t, fun r M' hp => ?_⟩
  · have := alC_1 X.cf (cp X.kf); omega
  · have := alS_73 (c := X.cf) hC.2.1.1; omega
  rcases hp with ⟨hn, rfl, rfl⟩ | ⟨j, p, hj, hp5, hi, hpl, hp⟩
  · exact ⟨X, Or.inl ⟨hn, rfl, rfl⟩, ⟨rfl, hX, hC.more⟩, fun u _ => mm_same.rf⟩
  have hV : ∃ p, p < 50 ∧ (itV (X.v j) st t).2.2.2.2.1 = nI p := hC.pl hj
  rcases hp with ⟨h1, rfl, rfl⟩ | ⟨h1, (⟨h2, rfl, fd2, fs2, h3, h4, h5⟩ | ⟨h2, h3, rfl, h4, h5⟩ | ⟨h2, k, hk, h3, h4, (⟨h6, rfl, (⟨h7, h8⟩ | ⟨h7, h8⟩)⟩ | ⟨h6, rfl, h8⟩), h5⟩)⟩
  · exact ⟨X, Or.inr ⟨j, p, hj, hp5, hi, hpl, Or.inl ⟨h1, rfl, rfl⟩⟩, ⟨rfl, hX, hC.more⟩, fun u _ => mm_same.rf⟩
  · exact ⟨_, Or.inr ⟨j, p, hj, hp5, hi, hpl, Or.inr ⟨h1, Or.inl ⟨h2, rfl, fd2, fs2, h4, rfl⟩⟩⟩, ⟨rfl, h3, hC.dlv (w := itD (X.v j)) (hC.pl hj)⟩, h5⟩
  · exact ⟨_, Or.inr ⟨j, p, hj, hp5, hi, hpl, Or.inr ⟨h1, Or.inr (Or.inl ⟨h2, h3, rfl, rfl⟩)⟩⟩, ⟨rfl, h4, hC.itm j hV⟩, h5⟩
  · exact ⟨_, Or.inr ⟨j, p, hj, hp5, hi, hpl, Or.inr ⟨h1, Or.inr (Or.inr ⟨h2, k, hk, h3, h4, Or.inl ⟨h6, rfl, Or.inl ⟨h7, rfl⟩⟩⟩)⟩⟩, ⟨rfl, h8, hC.itm j hV⟩, h5⟩
  · exact ⟨_, Or.inr ⟨j, p, hj, hp5, hi, hpl, Or.inr ⟨h1, Or.inr (Or.inr ⟨h2, k, hk, h3, h4, Or.inl ⟨h6, rfl, Or.inr ⟨h7, rfl⟩⟩⟩)⟩⟩, ⟨rfl, h8, hC.fail hV hk h7⟩, h5⟩
  · exact ⟨_, Or.inr ⟨j, p, hj, hp5, hi, hpl, Or.inr ⟨h1, Or.inr (Or.inr ⟨h2, k, hk, h3, h4, Or.inr ⟨h6, rfl, rfl⟩⟩)⟩⟩, ⟨rfl, h8, hC.beg (w := itX (itV (X.v j) st t) (X.R k).1 (nI p) (dA X.fh t (X.R k).2.2.2.2.1 X.ch)) ⟨p, hp5, rfl⟩ p⟩, h5⟩
theorem x_alarm (h : XS g M x m X) (i u : Int32) : XT g M x m X (fun kc ks P => Ci l g y_X_alarm b_X_alarm 3 .int (rk 4 87 kc ks) M [.ref x, .int i, .int u] P) (oXalarm i u) := by
  obtain ⟨rfl, hX, hC⟩ := h
  refine ⟨_, _, _, ⟨Nat.zero_le _, Nat.zero_le _⟩, c_X_alarm l g hX.x hX.tl i u, fun r M' hp => ?_⟩
  obtain ⟨rfl, hp⟩ := hp
  exact ⟨X, ⟨rfl, hp⟩, ⟨rfl, hX, hC.more⟩, fun u _ => mm_same.rf⟩
theorem x_state (h : XS g M x m X) (i : Int32) : XT g M x m X (fun kc ks P => Ci l g y_X_state b_X_state 2 .int (rk 1 20 kc ks) M [.ref x, .int i] P) (oXstate i) := by
  obtain ⟨rfl, hX, hC⟩ := h
  refine ⟨_, _, _, ⟨Nat.zero_le _, Nat.zero_le _⟩, c_X_state l g hX.x hX.it i, fun r M' hp => ?_⟩
  obtain ⟨rfl, hp⟩ := hp
  exact ⟨X, ⟨rfl, hp⟩, ⟨rfl, hX, hC.more⟩, fun u _ => mm_same.rf⟩
theorem x_cluster (h : XS g M x m X) (i u : Int32) : XT g M x m X (fun kc ks P => Ci l g y_X_cluster b_X_cluster 4 .int (rk 5 112 kc ks) M [.ref x, .int i, .int u] P) (oXcluster i u) := by
  obtain ⟨rfl, hX, hC⟩ := h
  refine ⟨_, _, _, ⟨Nat.zero_le _, Nat.zero_le _⟩, c_X_cluster l g hX.x hX.cn i u, fun r M' hp => ?_⟩
  obtain ⟨rfl, hp⟩ := hp
  exact ⟨X, ⟨rfl, hp⟩, ⟨rfl, hX, hC.more⟩, fun u _ => mm_same.rf⟩
theorem x_failing (h : XS g M x m X) (i : Int32) : XT g M x m X (fun kc ks P => Ci l g y_X_failing b_X_failing 2 .int (rk 4 85 kc ks) M [.ref x, .int i] P) (oXfailing i) := by
  obtain ⟨rfl, hX, hC⟩ := h
  refine ⟨_, _, _, ⟨Nat.zero_le _, Nat.zero_le _⟩, c_X_failing l g hX.x hX.rl hX.fex i, fun r M' hp => ?_⟩
  obtain ⟨rfl, hp⟩ := hp
  refine ⟨X, ⟨rfl, ?_⟩, ⟨rfl, hX, hC.more⟩, fun u _ => mm_same.rf⟩
  rcases hp with hp | ⟨j, nu, st, pl, sv, wi, fl, hf, hj, hi, he, rfl⟩
  · exact Or.inl hp
  · refine Or.inr ⟨j, hj, hi, ?_⟩
    have hr := hX.row _ (hX.fri j hj)
    have he := Option.some.inj (he.symm.trans hr)
    simp only [Prod.mk.injEq, Sum.inr.injEq, List.cons.injEq, Value.int.injEq] at he
    exact he.2.2.1
theorem x_perc (h : XS g M x m X) (hm : m ≤ 512) (i th : Int32) : XT g M x m X (fun kc ks P => Cl l g y_X_percentile b_X_percentile 5 (rk 1 24 kc ks) M [.ref x, .int i, .int th] P) (oXperc i th) := by
  obtain ⟨rfl, hX, hC⟩ := h
  refine ⟨_, _, _, ⟨Nat.zero_le _, Nat.zero_le _⟩, c_X_percentile l g hX.x hX.dl (by have := hC.2.2.2.1; omega) i th, fun r M' hp => ?_⟩
  obtain ⟨rfl, hp⟩ := hp
  exact ⟨X, ⟨rfl, hp⟩, ⟨rfl, hX, hC.more⟩, fun u _ => mm_same.rf⟩
theorem x_share (h : XS g M x m X) (hm : m ≤ 512) (hst : l.stackTraces = false) (i sd : Int32) {o3 : Nat} {fo : Nat → Int64} (ho3 : M o3 = some (al 50 (g.2.2 1) 1 fo)) : ∃ P : Int32 → mm_M → Prop, CtW l g y_Law_share b_Law_share 5 (some .int) hh_share (rk 7 169 1 6) M [.ref x, .int i, .int sd, .ref o3] (fun v M' => ∃ r, v = some (.int r) ∧ P r M') ∧ ∀ r M', P r M' → ∃ rs, oXshare i sd X r rs ∧ XS g M' x (m + 1) X ∧ (∃ fo, M' o3 = some (al 50 (g.2.2 1) 1 fo) ∧ (r = 0 → fo 0 = rs)) ∧ ∀ u, u ≠ 50 → mm_same u M M' := by
  obtain ⟨rfl, hX, hC⟩ := h
  have hup : ∀ rs, XS g (mm_up M o3 (al 50 (g.2.2 1) 1 (va_up fo 0 rs))) (X.a 0) (m + 1) X := fun rs => ⟨rfl, hX.kept (fun u _ hu => mm_same.up ho3 (by omega) _), hC.more⟩
  by_cases hv : (0 ≤ i ∧ i < 50) ∧ (sd = 0 ∨ sd = 1)
  · obtain ⟨p, hp, rfl⟩ := in_pl hv.1
    obtain ⟨nb, nl, q1, q2, q3, q4⟩ := hC.2.2.2.2.2 p hp
    rcases Nat.eq_zero_or_pos nb with z | z
    · subst z
      refine ⟨_, c_Law_shareT l g hX.x hX.cn hp (by rw [q1]; exact Int32.le_refl _) hv.2 hst, fun r M' hp2 => ?_⟩
      obtain ⟨rfl, rfl⟩ := hp2
      exact ⟨0, Or.inr (Or.inr ⟨p, 0, nl, hp, rfl, hv.2, q1, q2, by omega, by omega, Or.inl ⟨rfl, rfl⟩⟩), ⟨rfl, hX, hC.more⟩, ⟨fo, ho3, fun z => absurd z (by decide)⟩, fun u _ => mm_same.rf⟩
    · refine ⟨_, c_Law_shareR l g hX.x hX.cn hp q1 q2 z (by omega) (by omega) hv.2 ho3, fun r M' hp2 => ?_⟩
      obtain ⟨rfl, rs, rfl, hrs⟩ := hp2
      exact ⟨rs, Or.inr (Or.inr ⟨p, nb, nl, hp, rfl, hv.2, q1, q2, by omega, by omega, Or.inr ⟨z, rfl, hrs⟩⟩), hup rs, ⟨_, mm_self _ _ _, fun _ => va_up_self _ _ _⟩, fun u hu => mm_same.up ho3 hu _⟩
  · refine ⟨_, c_Law_shareN l g hX.x i sd hv ho3, fun r M' hp2 => ?_⟩
    obtain ⟨rfl, rs, rfl, hrs⟩ := hp2
    refine ⟨rs, ?_, hup rs, ⟨_, mm_self _ _ _, fun _ => va_up_self _ _ _⟩, fun u hu => mm_same.up ho3 hu _⟩
    rcases hrs with ⟨h1, h2⟩ | ⟨h1, h2, h3⟩
    · exact Or.inl ⟨h1, rfl, h2⟩
    · exact Or.inr (Or.inl ⟨h1, h2, rfl, h3⟩)
end XST
