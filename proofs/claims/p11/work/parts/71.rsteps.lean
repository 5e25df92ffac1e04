/-! THE REFERENCE's STEPS: each call, from a state to a state -/
abbrev RV : Type := (Nat → Nat) × (Nat → Nat → Int32) × (Nat → Nat → Int64) × (Nat → Int32) × (Int64) × (Nat) × (Nat) × (Nat) × (Nat → Nat) × (Nat → Nat) × (Nat → Nat) × (Nat → Nat) × (Nat → Nat)
abbrev RV.ad (X : RV) : Nat → Nat := X.1
abbrev RV.I (X : RV) : Nat → Nat → Int32 := X.2.1
abbrev RV.L (X : RV) : Nat → Nat → Int64 := X.2.2.1
abbrev RV.S (X : RV) : Nat → Int32 := X.2.2.2.1
abbrev RV.ck (X : RV) : Int64 := X.2.2.2.2.1
abbrev RV.nr (X : RV) : Nat := X.2.2.2.2.2.1
abbrev RV.nf (X : RV) : Nat := X.2.2.2.2.2.2.1
abbrev RV.na (X : RV) : Nat := X.2.2.2.2.2.2.2.1
abbrev RV.cn (X : RV) : Nat → Nat := X.2.2.2.2.2.2.2.2.1
abbrev RV.bg (X : RV) : Nat → Nat := X.2.2.2.2.2.2.2.2.2.1
abbrev RV.lt (X : RV) : Nat → Nat := X.2.2.2.2.2.2.2.2.2.2.1
abbrev RV.wi (X : RV) : Nat → Nat := X.2.2.2.2.2.2.2.2.2.2.2.1
abbrev RV.fw (X : RV) : Nat → Nat := X.2.2.2.2.2.2.2.2.2.2.2.2
abbrev RV.ri (Y : RV) (m : Nat) : Prop := RI Y.I Y.L Y.S m Y.nr Y.nf Y.na Y.cn Y.bg Y.lt Y.wi Y.fw
def RS (g : mm_G) (M : mm_M) (q m : Nat) (Y : RV) : Prop := Rs g M q Y.ad Y.I Y.L Y.S Y.ck ∧ Y.ri m
theorem RS.kept {g : mm_G} {M M' : mm_M} {q m : Nat} {Y : RV} (h : RS g M q m Y) (hs : ∀ u, 20 ≤ u → u < 47 → mm_same u M M') : RS g M' q m Y := ⟨h.1.kept hs, h.2⟩
theorem RS.ob {g : mm_G} {M : mm_M} {q m : Nat} {Y : RV} (h : RS g M q m Y) : ∃ fs, M q = some (ob 20 9 fs) := ⟨_, h.1.1⟩
abbrev RV.s0 (Y : RV) : RV := ((Y.ad, Y.I, Y.L, va_up Y.S 0 0, Y.ck, Y.nr, Y.nf, Y.na, Y.cn, Y.bg, Y.lt, Y.wi, Y.fw) : RV)
def oMrule (st pl sv : Int32) (wi : Int64) (fl : Int32) (Y : RV) (r : Int32) (Y' : RV) : Prop := (¬ rCond st pl sv wi ∧ r = (-102) ∧ Y' = Y.s0) ∨ (rCond st pl sv wi ∧ nI Y.nr = 40 ∧ r = (-104) ∧ Y' = Y.s0) ∨ (rCond st pl sv wi ∧ Y.nr < 40 ∧ r = nI (Y.nr + 1) ∧ ∃ w0, wi = lN w0 ∧ Y' = ((Y.ad, up2 (up2 (up2 (up2 Y.I 2 (Y.nr + 1) st) 3 (Y.nr + 1) pl) 4 (Y.nr + 1) sv) 6 (Y.nr + 1) fl, up2 Y.L 5 (Y.nr + 1) wi, va_up (va_up Y.S 0 0) 1 (nI (Y.nr + 1)), Y.ck, Y.nr + 1, Y.nf, Y.na, Y.cn, Y.bg, Y.lt, va_up Y.wi (Y.nr + 1) w0, Y.fw) : RV))
def oMhol (t : Int64) (Y : RV) (r : Int32) (Y' : RV) : Prop := ((∀ j, j ≤ 20000 → t ≠ lN j) ∧ r = (-102) ∧ Y' = Y.s0) ∨ ∃ j n, j ≤ 20000 ∧ t = lN j ∧ Y.S 16 = nI n ∧ ((¬ Y.I 15 j = 0 ∧ r = 0 ∧ Y' = Y.s0) ∨ (Y.I 15 j = 0 ∧ nI n = 100 ∧ r = (-104) ∧ Y' = Y.s0) ∨ (Y.I 15 j = 0 ∧ ¬ nI n = 100 ∧ r = 1 ∧ Y' = ((Y.ad, up2 Y.I 15 j 1, Y.L, va_up (va_up Y.S 0 0) 16 (nI (n + 1)), Y.ck, Y.nr, Y.nf, Y.na, Y.cn, Y.bg, Y.lt, Y.wi, Y.fw) : RV)))
def oMfound (i : Int32) (t : Int64) (Y : RV) (r : Int32) (Y' : RV) : Prop := ((∀ j, j ≤ 199 → i ≠ nI j) ∧ r = (-101) ∧ Y' = Y.s0) ∨ ∃ j, j ≤ 199 ∧ i = nI j ∧ ((¬ rTime Y.I Y.L j t ∧ r = (-102) ∧ Y' = Y.s0) ∨ (rTime Y.I Y.L j t ∧ Y.I 14 j = 0 ∧ r = 0 ∧ Y' = Y.s0) ∨ (rTime Y.I Y.L j t ∧ ¬ Y.I 14 j = 0 ∧ r = 1 ∧ Y' = ((Y.ad, rEnd Y.I j, up2 Y.L 9 j t, va_up Y.S 0 0, Y.ck, Y.nr, Y.nf, Y.na, Y.cn, Y.bg, Y.lt, Y.wi, Y.fw) : RV)))
def oMtick (t : Int64) (Y : RV) (r : Int32) (Y' : RV) : Prop := (¬ (Y.ck ≤ t ∧ t ≤ 2000000000) ∧ r = (-102) ∧ Y' = Y.s0) ∨ ((Y.ck ≤ t ∧ t ≤ 2000000000) ∧ ∃ s lt2, s = rTk t (Y.I, Y.L, Y.na) 200 ∧ r = nI s.2.2 - nI Y.na ∧ Y' = ((Y.ad, s.1, s.2.1, va_up (va_up Y.S 0 0) 18 (nI s.2.2), t, Y.nr, Y.nf, s.2.2, Y.cn, Y.bg, lt2, Y.wi, Y.fw) : RV))
def oMevent (i st pl sv : Int32) (t : Int64) (Y : RV) (r : Int32) (Y' : RV) : Prop := ((¬ ∃ j p, j ≤ 199 ∧ p ≤ 49 ∧ i = nI j ∧ pl = nI p) ∧ r = (-101) ∧ Y' = Y.s0) ∨ ∃ j p, j ≤ 199 ∧ p ≤ 49 ∧ i = nI j ∧ pl = nI p ∧ ((¬ ((∃ a v, a ≤ 9 ∧ v ≤ 4 ∧ st = nI a ∧ sv = nI v) ∧ rTime Y.I Y.L j t) ∧ r = (-102) ∧ Y' = Y.s0) ∨ ∃ a v tt, a ≤ 9 ∧ v ≤ 4 ∧ tt ≤ 1000000000 ∧ st = nI a ∧ sv = nI v ∧ t = lN tt ∧ rTime Y.I Y.L j t ∧ ((a = 9 ∧ r = 0 ∧ Y' = ((Y.ad, up2 (up2 (up2 (rEnd Y.I j) 23 (4200 * v + Y.cn v) (evD Y.I Y.L j (lN tt))) 22 v (nI (Y.cn v + 1))) 7 j (-1), evL Y.I Y.L j (lN tt), va_up Y.S 0 0, Y.ck, Y.nr, Y.nf, Y.na, va_up Y.cn v (Y.cn v + 1), Y.bg, Y.lt, Y.wi, Y.fw) : RV)) ∨ (¬ a = 9 ∧ ∃ k, k ≤ Y.nr ∧ rowFirst Y.I Y.nr (nI a) (nI p) (nI v) k ∧ ((k = 0 ∧ r = 0 ∧ Y' = ((Y.ad, up2 (rEnd Y.I j) 7 j (nI a), evL Y.I Y.L j (lN tt), va_up Y.S 0 0, Y.ck, Y.nr, Y.nf, Y.na, Y.cn, Y.bg, Y.lt, Y.wi, Y.fw) : RV)) ∨ (1 ≤ k ∧ ¬ Y.I 6 k = 0 ∧ r = - nI k ∧ (((∃ z, z < Y.nf ∧ Y.I 25 z = nI k) ∧ Y' = ((Y.ad, up2 (rEnd Y.I j) 7 j (nI a), evL Y.I Y.L j (lN tt), va_up Y.S 0 0, Y.ck, Y.nr, Y.nf, Y.na, Y.cn, Y.bg, Y.lt, Y.wi, Y.fw) : RV)) ∨ ((¬ ∃ z, z < Y.nf ∧ Y.I 25 z = nI k) ∧ Y' = ((Y.ad, up2 (up2 (rEnd Y.I j) 7 j (nI a)) 25 Y.nf (nI k), evL Y.I Y.L j (lN tt), va_up (va_up Y.S 0 0) 24 (nI (Y.nf + 1)), Y.ck, Y.nr, Y.nf + 1, Y.na, Y.cn, Y.bg, Y.lt, Y.wi, va_up Y.fw Y.nf k) : RV)))) ∨ (1 ≤ k ∧ Y.I 6 k = 0 ∧ r = nI k ∧ Y' = ((Y.ad, up2 (up2 (up2 (up2 (rEnd Y.I j) 7 j (nI a)) 10 j (nI k)) 11 j (nI p)) 20 p (nI (Y.bg p + 1)), up2 (evL Y.I Y.L j (lN tt)) 12 j (lN (bh (Y.I 15) (Y.wi k + 20002) tt (Y.wi k))), va_up Y.S 0 0, Y.ck, Y.nr, Y.nf, Y.na, Y.cn, va_up Y.bg p (Y.bg p + 1), Y.lt, Y.wi, Y.fw) : RV))))))
def oMalarm (i u : Int32) (Y : RV) (r : Int32) (Y' : RV) : Prop := Y' = Y.s0 ∧ (((∀ j v, j < Y.na → j < 400 → v < 5 → ¬ (i = nI j ∧ u = nI v)) ∧ r = (-1)) ∨ ∃ j v, j < Y.na ∧ j < 400 ∧ v < 5 ∧ i = nI j ∧ u = nI v ∧ r = (Y.L 19 (5 * j + v)).toInt32)
def oMstate (i : Int32) (Y : RV) (r : Int32) (Y' : RV) : Prop := Y' = Y.s0 ∧ (((∀ j, j ≤ 199 → i ≠ nI j) ∧ r = (-101)) ∨ ∃ j, j ≤ 199 ∧ i = nI j ∧ r = Y.I 7 j + (if ¬ Y.I 14 j = 0 then 200 else if ¬ Y.I 13 j = 0 then 100 else 0))
def oMcluster (i u : Int32) (Y : RV) (r : Int32) (Y' : RV) : Prop := Y' = Y.s0 ∧ ∃ o, clFin Y.I i u o ∧ r = clA Y.I u o
def oMfailing (i : Int32) (Y : RV) (r : Int32) (Y' : RV) : Prop := Y' = Y.s0 ∧ (((∀ j, j < Y.nf → i ≠ nI j) ∧ r = 0) ∨ ∃ j, j < Y.nf ∧ i = nI j ∧ r = Y.I 25 j)
def oMperc (i th : Int32) (Y : RV) (r : Int64) (Y' : RV) : Prop := Y' = Y.s0 ∧ (((¬ ∃ j u, j ≤ 4 ∧ u ≤ 1000 ∧ i = nI j ∧ th = nI u) ∧ r = (-102)) ∨ ∃ j u, j ≤ 4 ∧ u ≤ 1000 ∧ i = nI j ∧ th = nI u ∧ ((Y.cn j = 0 ∧ r = (-1)) ∨ (0 < Y.cn j ∧ r = (bst (fun z => Y.I 23 (4200 * j + z)) (Y.cn j) (rkv (Y.cn j) u) (Y.cn j)).toInt64)))
def oMshare (i sd : Int32) (Y : RV) (r : Int64) (Y' : RV) : Prop := ((∀ j, j ≤ 49 → i ≠ nI j) ∧ r = (-101) ∧ Y' = Y.s0) ∨ ∃ j, j ≤ 49 ∧ i = nI j ∧ ((¬ (sd = 0 ∨ sd = 1) ∧ r = (-102) ∧ Y' = Y.s0) ∨ ((sd = 0 ∨ sd = 1) ∧ Y.bg j = 0 ∧ r = 0 ∧ Y' = ((Y.ad, Y.I, Y.L, va_up (va_up Y.S 0 0) 0 1, Y.ck, Y.nr, Y.nf, Y.na, Y.cn, Y.bg, Y.lt, Y.wi, Y.fw) : RV)) ∨ ((sd = 0 ∨ sd = 1) ∧ 0 < Y.bg j ∧ r = (if sd = 0 then lN (Y.lt j / Nat.gcd (Y.bg j) (Y.lt j)) else lN (Y.bg j / Nat.gcd (Y.bg j) (Y.lt j))) ∧ Y' = Y.s0))
section RST
variable {l : Launch} {g : mm_G} {M : mm_M} {q m : Nat} {Y : RV}
abbrev RT {α : Type} (g : mm_G) (M : mm_M) (q m : Nat) (Y : RV) (B : (α → mm_M → Prop) → Prop) (o : RV → α → RV → Prop) : Prop := ∃ P, B P ∧ ∀ r M', P r M' → ∃ Y', o Y r Y' ∧ RS g M' q (m + 1) Y' ∧ ∀ u, (u < 20 ∨ 47 ≤ u) → mm_same u M M'
theorem RS.n (h : RS g M q m Y) {M' : mm_M} (hq : Rq g M M' q Y.ad Y.I Y.L (va_up Y.S 0 0) Y.ck) : RS g M' q (m + 1) Y.s0 ∧ ∀ u, (u < 20 ∨ 47 ≤ u) → mm_same u M M' := ⟨⟨hq.1, h.2.s0 0⟩, hq.2⟩
theorem r_rule (h : RS g M q m Y) (st pl sv : Int32) (wi : Int64) {fl : Int32} (hfl : bo fl) : RT g M q m Y (fun P => Ci l g y_Mod_rule b_Mod_rule 7 .int (rk 1 25 0 0) M [.ref q, .int st, .int pl, .int sv, .long wi, .int fl] P) (oMrule st pl sv wi fl) := by
  refine ⟨_, c_Mod_rule l g h.1 st pl sv wi hfl h.2.1.1 h.2.1.2, fun r M' hp => ?_⟩
  rcases hp with ⟨h1, rfl, hq⟩ | ⟨h1, h2, rfl, hq⟩ | ⟨h1, h2, rfl, hq⟩
  · exact ⟨_, Or.inl ⟨h1, rfl, rfl⟩, h.n hq⟩
  · exact ⟨_, Or.inr (Or.inl ⟨h1, h2, rfl, rfl⟩), h.n hq⟩
  · obtain ⟨w0, e, hR⟩ := h.2.rule h2 (st := st) (pl := pl) (sv := sv) (fl := fl) h1.2.2.2
    exact ⟨_, Or.inr (Or.inr ⟨h1, h2, rfl, w0, e, rfl⟩), ⟨hq.1, hR⟩, hq.2⟩
theorem r_hol (h : RS g M q m Y) (t : Int64) : RT g M q m Y (fun P => Ci l g y_Mod_holiday b_Mod_holiday 3 .int (rk 1 25 0 0) M [.ref q, .long t] P) (oMhol t) := by
  obtain ⟨n, hn⟩ := h.2.2.2.1
  refine ⟨_, c_Mod_holiday l g h.1 t hn, fun r M' hp => ?_⟩
  rcases hp with ⟨h1, rfl, hq⟩ | ⟨j, hj, ht, (⟨h1, rfl, hq⟩ | ⟨h1, h2, rfl, hq⟩ | ⟨h1, h2, rfl, hq⟩)⟩
  · exact ⟨_, Or.inl ⟨h1, rfl, rfl⟩, h.n hq⟩
  · exact ⟨_, Or.inr ⟨j, n, hj, ht, hn, Or.inl ⟨h1, rfl, rfl⟩⟩, h.n hq⟩
  · exact ⟨_, Or.inr ⟨j, n, hj, ht, hn, Or.inr (Or.inl ⟨h1, h2, rfl, rfl⟩)⟩, h.n hq⟩
  · exact ⟨_, Or.inr ⟨j, n, hj, ht, hn, Or.inr (Or.inr ⟨h1, h2, rfl, rfl⟩)⟩, ⟨hq.1, h.2.holiday j n⟩, hq.2⟩
theorem r_found (h : RS g M q m Y) (i : Int32) (t : Int64) : RT g M q m Y (fun P => Ci l g y_Mod_found b_Mod_found 4 .int (rk 2 48 0 0) M [.ref q, .int i, .long t] P) (oMfound i t) := by
  refine ⟨_, c_Mod_found l g h.1 i t, fun r M' hp => ?_⟩
  rcases hp with ⟨h1, rfl, hq⟩ | ⟨j, hj, ht, (⟨h1, rfl, hq⟩ | ⟨h1, h2, rfl, hq⟩ | ⟨h1, h2, rfl, hq⟩)⟩
  · exact ⟨_, Or.inl ⟨h1, rfl, rfl⟩, h.n hq⟩
  · exact ⟨_, Or.inr ⟨j, hj, ht, Or.inl ⟨h1, rfl, rfl⟩⟩, h.n hq⟩
  · exact ⟨_, Or.inr ⟨j, hj, ht, Or.inr (Or.inl ⟨h1, h2, rfl, rfl⟩)⟩, h.n hq⟩
  · exact ⟨_, Or.inr ⟨j, hj, ht, Or.inr (Or.inr ⟨h1, h2, rfl, rfl⟩)⟩, ⟨hq.1, h.2.found (by omega) h1⟩, hq.2⟩
theorem r_tick (h : RS g M q m Y) (hm : m < 512) (t : Int64) : RT g M q m Y (fun P => Ci l g y_Mod_tick b_Mod_tick 5 .int (rk 1 25 0 0) M [.ref q, .long t] P) (oMtick t) := by
  have hna := h.2.2.2.2.1
  refine ⟨_, c_Mod_tick l g h.1 t hna.1 (by have := hna.2; omega) h.2.2.2.2.2.2.2.2.2, fun r M' hp => ?_⟩
  rcases hp with ⟨h1, rfl, hq⟩ | ⟨h1, hq, rfl⟩
  · exact ⟨_, Or.inl ⟨h1, rfl, rfl⟩, h.n hq⟩
  · obtain ⟨lt2, hR⟩ := h.2.tick t
    obtain ⟨s, hs⟩ : ∃ s, s = rTk t (Y.I, Y.L, Y.na) 200 := ⟨_, rfl⟩
    rw [← hs] at hq hR ⊢
    exact ⟨_, Or.inr ⟨h1, s, lt2, hs, rfl, rfl⟩, ⟨hq.1, hR⟩, hq.2⟩
theorem r_event (h : RS g M q m Y) (hm : m < 512) (i st pl sv : Int32) (t : Int64) : RT g M q m Y (fun P => Ci l g y_Mod_event b_Mod_event 8 .int (rk 2 48 0 0) M [.ref q, .int i, .int st, .int pl, .int sv, .long t] P) (oMevent i st pl sv t) := by
  have hR := h.2
  refine ⟨_, c_Mod_event l g h.1 i st pl sv t hR.1.1 hR.1.2 hR.2.1.1 hR.f40 hR.room (fun v hv => ⟨(hR.2.2.2.2.1 v hv).1, by have := (hR.2.2.2.2.1 v hv).2; omega⟩) (fun p hp => ⟨(hR.2.2.2.2.2.1 p (by omega)).1, by have := (hR.2.2.2.2.2.1 p (by omega)).2.2.1; omega⟩) hR.2.2.2.2.2.2.1 hR.2.2.2.2.2.2.2.1, fun r M' hp => ?_⟩
  rcases hp with ⟨h1, rfl, hq⟩ | ⟨j, p, hj, hp5, hi, hpl, hp⟩
  · exact ⟨_, Or.inl ⟨h1, rfl, rfl⟩, h.n hq⟩
  have hj2 : j < 200 := by omega
  have hp2 : p < 50 := by omega
  rcases hp with ⟨h1, rfl, hq⟩ | ⟨a, v, tt, ha, hv, htt, hst, hsv, ht, h1, (⟨h2, rfl, hq⟩ | ⟨h2, k, hk, h3, (⟨h4, rfl, hq⟩ | ⟨h4, h5, rfl, (⟨h6, hq⟩ | ⟨h6, hq⟩)⟩ | ⟨h4, h5, rfl, hq⟩)⟩)⟩
  · exact ⟨_, Or.inr ⟨j, p, hj, hp5, hi, hpl, Or.inl ⟨h1, rfl, rfl⟩⟩, h.n hq⟩
  · exact ⟨_, Or.inr ⟨j, p, hj, hp5, hi, hpl, Or.inr ⟨a, v, tt, ha, hv, htt, hst, hsv, ht, h1, Or.inl ⟨h2, rfl, rfl⟩⟩⟩, ⟨hq.1, hR.evD hj2 htt hv _ _⟩, hq.2⟩
  · exact ⟨_, Or.inr ⟨j, p, hj, hp5, hi, hpl, Or.inr ⟨a, v, tt, ha, hv, htt, hst, hsv, ht, h1, Or.inr ⟨h2, k, hk, h3, Or.inl ⟨h4, rfl, rfl⟩⟩⟩⟩, ⟨hq.1, hR.ev hj2 htt _⟩, hq.2⟩
  · exact ⟨_, Or.inr ⟨j, p, hj, hp5, hi, hpl, Or.inr ⟨a, v, tt, ha, hv, htt, hst, hsv, ht, h1, Or.inr ⟨h2, k, hk, h3, Or.inr (Or.inl ⟨h4, h5, rfl, Or.inl ⟨h6, rfl⟩⟩)⟩⟩⟩, ⟨hq.1, hR.ev hj2 htt _⟩, hq.2⟩
  · exact ⟨_, Or.inr ⟨j, p, hj, hp5, hi, hpl, Or.inr ⟨a, v, tt, ha, hv, htt, hst, hsv, ht, h1, Or.inr ⟨h2, k, hk, h3, Or.inr (Or.inl ⟨h4, h5, rfl, Or.inr ⟨h6, rfl⟩⟩)⟩⟩⟩, ⟨hq.1, hR.evF hj2 htt _ h4 hk h6⟩, hq.2⟩
  · exact ⟨_, Or.inr ⟨j, p, hj, hp5, hi, hpl, Or.inr ⟨a, v, tt, ha, hv, htt, hst, hsv, ht, h1, Or.inr ⟨h2, k, hk, h3, Or.inr (Or.inr ⟨h4, h5, rfl, rfl⟩)⟩⟩⟩, ⟨hq.1, hR.evB hj2 htt _ k hp2 _⟩, hq.2⟩
theorem r_alarm (h : RS g M q m Y) (hm : m ≤ 512) (i u : Int32) : RT g M q m Y (fun P => Ci l g y_Mod_alarm b_Mod_alarm 3 .int (rk 0 0 0 0) M [.ref q, .int i, .int u] P) (oMalarm i u) := by
  have hna := h.2.2.2.2.1
  refine ⟨_, c_Mod_alarm l g h.1 i u hna.1 (by have := hna.2; omega), fun r M' hp => ?_⟩
  exact ⟨_, ⟨rfl, hp.2⟩, h.n hp.1⟩
theorem r_state (h : RS g M q m Y) (i : Int32) : RT g M q m Y (fun P => Ci l g y_Mod_state b_Mod_state 2 .int (rk 1 25 0 0) M [.ref q, .int i] P) (oMstate i) := by
  refine ⟨_, c_Mod_state l g h.1 i, fun r M' hp => ?_⟩
  exact ⟨_, ⟨rfl, hp.2⟩, h.n hp.1⟩
theorem r_cluster (h : RS g M q m Y) (hm : m ≤ 512) (i u : Int32) : RT g M q m Y (fun P => Ci l g y_Mod_cluster b_Mod_cluster 8 .int (rk 1 26 0 0) M [.ref q, .int i, .int u] P) (oMcluster i u) := by
  refine ⟨_, c_Mod_cluster l g h.1 i u (clp_50 (h.2.cts hm)), fun r M' hp => ?_⟩
  exact ⟨_, ⟨rfl, hp.2⟩, h.n hp.1⟩
theorem r_failing (h : RS g M q m Y) (i : Int32) : RT g M q m Y (fun P => Ci l g y_Mod_failing b_Mod_failing 2 .int (rk 0 0 0 0) M [.ref q, .int i] P) (oMfailing i) := by
  refine ⟨_, c_Mod_failing l g h.1 i h.2.2.1.1 h.2.f40, fun r M' hp => ?_⟩
  exact ⟨_, ⟨rfl, hp.2⟩, h.n hp.1⟩
theorem r_perc (h : RS g M q m Y) (hm : m ≤ 512) (i th : Int32) : RT g M q m Y (fun P => Cl l g y_Mod_percentile b_Mod_percentile 10 (rk 1 25 0 0) M [.ref q, .int i, .int th] P) (oMperc i th) := by
  refine ⟨_, c_Mod_percentile l g h.1 i th (cn := Y.cn) (fun j hj => ⟨(h.2.2.2.2.2.1 j hj).1, by have := (h.2.2.2.2.2.1 j hj).2; omega⟩), fun r M' hp => ?_⟩
  exact ⟨_, ⟨rfl, hp.2⟩, h.n hp.1⟩
theorem r_share (h : RS g M q m Y) (hm : m ≤ 512) (i sd : Int32) : RT g M q m Y (fun P => Cl l g y_Mod_share b_Mod_share 4 (rk 1 25 0 0) M [.ref q, .int i, .int sd] P) (oMshare i sd) := by
  refine ⟨_, c_Mod_share l g h.1 i sd (bg := Y.bg) (lt := Y.lt) (fun j hj => by
    obtain ⟨q1, q2, q3, q4⟩ := h.2.2.2.2.2.2.1 j (by omega)
    exact ⟨q1, q2, by omega, by omega⟩), fun r M' hp => ?_⟩
  rcases hp with ⟨h1, rfl, hq⟩ | ⟨j, hj, hi, (⟨h1, rfl, hq⟩ | ⟨h1, h2, rfl, hq⟩ | ⟨h1, h2, rfl, hq⟩)⟩
  · exact ⟨_, Or.inl ⟨h1, rfl, rfl⟩, h.n hq⟩
  · exact ⟨_, Or.inr ⟨j, hj, hi, Or.inl ⟨h1, rfl, rfl⟩⟩, h.n hq⟩
  · have hs : va_up (va_up Y.S 0 0) 0 1 = va_up Y.S 0 1 := bx_uu Y.S 0 0 1
    refine ⟨_, Or.inr ⟨j, hj, hi, Or.inr (Or.inl ⟨h1, h2, rfl, rfl⟩)⟩, ⟨hq.1, ?_⟩, hq.2⟩
    show RI Y.I Y.L (va_up (va_up Y.S 0 0) 0 1) (m + 1) Y.nr Y.nf Y.na Y.cn Y.bg Y.lt Y.wi Y.fw
    rw [hs]
    exact h.2.s0 1
  · exact ⟨_, Or.inr ⟨j, hj, hi, Or.inr (Or.inr ⟨h1, h2, rfl, rfl⟩)⟩, h.n hq⟩
end RST
