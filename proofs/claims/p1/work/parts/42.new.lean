/-! A NEW OBJECT: one call of the class and of the reference: the answers are the same -/
theorem rz7 {j : Nat} (h : j < 200) : rz_I 200 7 j = -1 := if_pos ⟨rfl, h⟩
theorem rzo {k : Nat} (h : k ≠ 7) (j : Nat) : rz_I 200 k j = 0 := if_neg (fun z => h z.1)
theorem ti32 (x : Int32) : x.toInt64.toInt = x.toInt := Int32.toInt_toInt64 x
theorem n_st {st : Int32} : (0 ≤ st ∧ st < 9) ↔ (0 ≤ st.toInt64 ∧ st.toInt64 ≤ 8) := by
  rw [Int32.le_iff_toInt_le, Int32.lt_iff_toInt_lt, Int64.le_iff_toInt_le, Int64.le_iff_toInt_le, ti32, show (0 : Int32).toInt = 0 from rfl, show (9 : Int32).toInt = 9 from rfl, show (0 : Int64).toInt = 0 from rfl, show (8 : Int64).toInt = 8 from rfl]
  omega
theorem n_pl {st : Int32} : (st = (-1) ∨ (0 ≤ st ∧ st < 50)) ↔ ((-1) ≤ st.toInt64 ∧ st.toInt64 ≤ 49) := by
  rw [← Int32.toInt_inj, Int32.le_iff_toInt_le, Int32.lt_iff_toInt_lt, Int64.le_iff_toInt_le, Int64.le_iff_toInt_le, ti32, show (0 : Int32).toInt = 0 from rfl, show (50 : Int32).toInt = 50 from rfl, show (-1 : Int32).toInt = -1 from rfl, show (-1 : Int64).toInt = -1 from rfl, show (49 : Int64).toInt = 49 from rfl]
  omega
theorem n_sv {st : Int32} : (st = (-1) ∨ (0 ≤ st ∧ st < 5)) ↔ ((-1) ≤ st.toInt64 ∧ st.toInt64 ≤ 4) := by
  rw [← Int32.toInt_inj, Int32.le_iff_toInt_le, Int32.lt_iff_toInt_lt, Int64.le_iff_toInt_le, Int64.le_iff_toInt_le, ti32, show (0 : Int32).toInt = 0 from rfl, show (5 : Int32).toInt = 5 from rfl, show (-1 : Int32).toInt = -1 from rfl, show (-1 : Int64).toInt = -1 from rfl, show (4 : Int64).toInt = 4 from rfl]
  omega
theorem n_rc {st pl sv : Int32} {wi : Int64} : ((0 ≤ st ∧ st < 9) ∧ (pl = (-1) ∨ (0 ≤ pl ∧ pl < 50)) ∧ (sv = (-1) ∨ (0 ≤ sv ∧ sv < 5)) ∧ (0 ≤ wi ∧ wi ≤ 10000000)) ↔ rCond st pl sv wi := by
  rw [n_st, n_pl, n_sv]
theorem n_a9 {st : Int32} : (0 ≤ st ∧ st ≤ 9) ↔ ∃ a : Nat, a ≤ 9 ∧ st = nI a := by
  constructor
  · intro h
    exact nI_of2 (n := 9) rfl (Int32.not_lt.mpr h.1) h.2
  · rintro ⟨a, ha, rfl⟩
    exact ⟨nI_pos' (by omega), show nI a ≤ nI 9 from nI_le ha (by decide)⟩
theorem n_v5 {sv : Int32} : (0 ≤ sv ∧ sv < 5) ↔ ∃ a : Nat, a ≤ 4 ∧ sv = nI a := by
  constructor
  · intro h
    obtain ⟨j, hj, e⟩ := in_sv h
    exact ⟨j, by omega, e⟩
  · rintro ⟨a, ha, rfl⟩
    exact sv_in (by omega)
theorem n_time {j : Nat} (hj : j < 200) {t : Int64} : (0 ≤ t ∧ t ≤ 1000000000 ∧ (((fun _ => it0 : Nat → itS) j).1 = (-1) ∨ ((fun _ => it0 : Nat → itS) j).2.2.1 ≤ t)) ↔ rTime (rz_I 200) (fun _ _ => 0 : Nat → Nat → Int64) j t := by
  show _ ↔ (if rz_I 200 7 j < 0 then (0 : Int64) else 0) ≤ t ∧ t ≤ 1000000000
  rw [rz7 hj, if_pos (by decide)]
  exact ⟨fun h => ⟨h.1, h.2.1⟩, fun h => ⟨h.1, h.2, Or.inl rfl⟩⟩
set_option maxHeartbeats 1000000 in
theorem n_rule {g : mm_G} {M0 M1 M2 M3 : mm_M} {q : Nat} {ad : Nat → Nat} {r1 r2 : Int32} {la : Nat} {adR : Nat → Nat} {st pl sv : Int32} {wi : Int64} {fl : Int32}
    (h1 : (¬ ((0 ≤ st ∧ st < 9) ∧ (pl = (-1) ∨ (0 ≤ pl ∧ pl < 50)) ∧ (sv = (-1) ∨ (0 ≤ sv ∧ sv < 5)) ∧ (0 ≤ wi ∧ wi ≤ 10000000)) ∧ r1 = (-102) ∧ M1 = M0) ∨ (((0 ≤ st ∧ st < 9) ∧ (pl = (-1) ∨ (0 ≤ pl ∧ pl < 50)) ∧ (sv = (-1) ∨ (0 ≤ sv ∧ sv < 5)) ∧ (0 ≤ wi ∧ wi ≤ 10000000)) ∧ ((40 ≤ 0 ∧ r1 = (-104) ∧ M1 = M0) ∨ (0 < 40 ∧ r1 = nI (0 + 1) ∧ ∃ q, M0 q = none ∧ M1 q = some (rowc (nI (0 + 1)) st pl sv wi fl 0) ∧ Al g M1 8 la (0 + 1) (alM 0 0) (va_up adR 0 q) ∧ ∀ u, u ≠ 8 → mm_same u M0 M1))))
    (h2 : (¬ rCond st pl sv wi ∧ r2 = (-102) ∧ Rq g M3 M2 q ad (rz_I 200) (fun _ _ => 0 : Nat → Nat → Int64) (va_up (fun _ => 0 : Nat → Int32) 0 0) (0 : Int64)) ∨ (rCond st pl sv wi ∧ nI 0 = 40 ∧ r2 = (-104) ∧ Rq g M3 M2 q ad (rz_I 200) (fun _ _ => 0 : Nat → Nat → Int64) (va_up (fun _ => 0 : Nat → Int32) 0 0) (0 : Int64)) ∨ (rCond st pl sv wi ∧ 0 < 40 ∧ r2 = nI (0 + 1) ∧ Rq g M3 M2 q ad (up2 (up2 (up2 (up2 (rz_I 200) 2 (0 + 1) st) 3 (0 + 1) pl) 4 (0 + 1) sv) 6 (0 + 1) fl) (up2 (fun _ _ => 0 : Nat → Nat → Int64) 5 (0 + 1) wi) (va_up (va_up (fun _ => 0 : Nat → Int32) 0 0) 1 (nI (0 + 1))) (0 : Int64))) : r1 = r2 := by
  rcases h1 with ⟨n1, rfl, _⟩ | ⟨y1, (⟨z, _, _⟩ | ⟨_, rfl, _⟩)⟩
  · rcases h2 with ⟨_, rfl, _⟩ | ⟨y2, z, _⟩ | ⟨y2, _⟩
    · rfl
    · exact absurd z (by decide)
    · exact absurd (n_rc.mpr y2) n1
  · exact absurd z (by omega)
  · rcases h2 with ⟨n2, _⟩ | ⟨y2, z, _⟩ | ⟨y2, _, rfl, _⟩
    · exact absurd (n_rc.mp y1) n2
    · exact absurd z (by decide)
    · rfl
set_option maxHeartbeats 1000000 in
theorem n_event {g : mm_G} {M0 M1 M2 M3 : mm_M} {q : Nat} {ad : Nat → Nat} {r1 r2 : Int32} {i st pl sv : Int32} {t : Int64}
    (h1 : ((∀ k q, k < 200 → q < 50 → ¬ (i = nI k ∧ pl = nI q)) ∧ r1 = (-101) ∧ ∀ u, 19 ≤ u → mm_same u M0 M1) ∨ ∃ j p, j < 200 ∧ p < 50 ∧ i = nI j ∧ pl = nI p ∧ ((¬ (0 ≤ st ∧ st ≤ 9 ∧ (0 ≤ sv ∧ sv < 5) ∧ (0 ≤ t ∧ t ≤ 1000000000 ∧ (((fun _ => it0 : Nat → itS) j).1 = (-1) ∨ ((fun _ => it0 : Nat → itS) j).2.2.1 ≤ t))) ∧ r1 = (-102) ∧ ∀ u, 19 ≤ u → mm_same u M0 M1) ∨ ((0 ≤ st ∧ st ≤ 9 ∧ (0 ≤ sv ∧ sv < 5) ∧ (0 ≤ t ∧ t ≤ 1000000000 ∧ (((fun _ => it0 : Nat → itS) j).1 = (-1) ∨ ((fun _ => it0 : Nat → itS) j).2.2.1 ≤ t))) ∧ r1 = 0 ∧ ∀ u, 19 ≤ u → mm_same u M0 M1)))
    (h2 : ((¬ ∃ j p, j ≤ 199 ∧ p ≤ 49 ∧ i = nI j ∧ pl = nI p) ∧ r2 = (-101) ∧ Rq g M3 M2 q ad (rz_I 200) (fun _ _ => 0 : Nat → Nat → Int64) (va_up (fun _ => 0 : Nat → Int32) 0 0) (0 : Int64)) ∨ ∃ j p, j ≤ 199 ∧ p ≤ 49 ∧ i = nI j ∧ pl = nI p ∧ ((¬ ((∃ a v, a ≤ 9 ∧ v ≤ 4 ∧ st = nI a ∧ sv = nI v) ∧ rTime (rz_I 200) (fun _ _ => 0 : Nat → Nat → Int64) j t) ∧ r2 = (-102) ∧ Rq g M3 M2 q ad (rz_I 200) (fun _ _ => 0 : Nat → Nat → Int64) (va_up (fun _ => 0 : Nat → Int32) 0 0) (0 : Int64)) ∨ ∃ a v tt, a ≤ 9 ∧ v ≤ 4 ∧ tt ≤ 1000000000 ∧ st = nI a ∧ sv = nI v ∧ t = lN tt ∧ rTime (rz_I 200) (fun _ _ => 0 : Nat → Nat → Int64) j t ∧ ((a = 9 ∧ r2 = 0 ∧ Rq g M3 M2 q ad (up2 (up2 (up2 (rEnd (rz_I 200) j) 23 (4200 * v + (fun _ => 0 : Nat → Nat) v) (evD (rz_I 200) (fun _ _ => 0 : Nat → Nat → Int64) j (lN tt))) 22 v (nI ((fun _ => 0 : Nat → Nat) v + 1))) 7 j (-1)) (evL (rz_I 200) (fun _ _ => 0 : Nat → Nat → Int64) j (lN tt)) (va_up (fun _ => 0 : Nat → Int32) 0 0) (0 : Int64)) ∨ (¬ a = 9 ∧ ∃ k, k ≤ 0 ∧ rowFirst (rz_I 200) 0 (nI a) (nI p) (nI v) k ∧ ((k = 0 ∧ r2 = 0 ∧ Rq g M3 M2 q ad (up2 (rEnd (rz_I 200) j) 7 j (nI a)) (evL (rz_I 200) (fun _ _ => 0 : Nat → Nat → Int64) j (lN tt)) (va_up (fun _ => 0 : Nat → Int32) 0 0) (0 : Int64)) ∨ (1 ≤ k ∧ ¬ (rz_I 200) 6 k = 0 ∧ r2 = - nI k ∧ (((∃ z, z < 0 ∧ (rz_I 200) 25 z = nI k) ∧ Rq g M3 M2 q ad (up2 (rEnd (rz_I 200) j) 7 j (nI a)) (evL (rz_I 200) (fun _ _ => 0 : Nat → Nat → Int64) j (lN tt)) (va_up (fun _ => 0 : Nat → Int32) 0 0) (0 : Int64)) ∨ ((¬ ∃ z, z < 0 ∧ (rz_I 200) 25 z = nI k) ∧ Rq g M3 M2 q ad (up2 (up2 (rEnd (rz_I 200) j) 7 j (nI a)) 25 0 (nI k)) (evL (rz_I 200) (fun _ _ => 0 : Nat → Nat → Int64) j (lN tt)) (va_up (va_up (fun _ => 0 : Nat → Int32) 0 0) 24 (nI (0 + 1))) (0 : Int64)))) ∨ (1 ≤ k ∧ (rz_I 200) 6 k = 0 ∧ r2 = nI k ∧ Rq g M3 M2 q ad (up2 (up2 (up2 (up2 (rEnd (rz_I 200) j) 7 j (nI a)) 10 j (nI k)) 11 j (nI p)) 20 p (nI ((fun _ => 0 : Nat → Nat) p + 1))) (up2 (evL (rz_I 200) (fun _ _ => 0 : Nat → Nat → Int64) j (lN tt)) 12 j (lN (bh ((rz_I 200) 15) ((fun _ => 0 : Nat → Nat) k + 20002) tt ((fun _ => 0 : Nat → Nat) k)))) (va_up (fun _ => 0 : Nat → Int32) 0 0) (0 : Int64))))))) : r1 = r2 := by
  rcases h1 with ⟨n1, rfl, _⟩ | ⟨j, p, hj, hp, rfl, rfl, h1⟩
  · rcases h2 with ⟨_, rfl, _⟩ | ⟨j', p', hj', hp', e1, e2, _⟩
    · rfl
    · exact absurd ⟨e1, e2⟩ (n1 j' p' (by omega) (by omega))
  · rcases h2 with ⟨n2, _⟩ | ⟨j', p', hj', hp', e1, e2, h2⟩
    · exact absurd ⟨j, p, by omega, by omega, rfl, rfl⟩ n2
    · have ej : j = j' := (nI_eq (by omega) (by omega)).mp e1
      have ep : p = p' := (nI_eq (by omega) (by omega)).mp e2
      subst ej
      subst ep
      rcases h1 with ⟨hn, rfl, _⟩ | ⟨hy, rfl, _⟩
      · rcases h2 with ⟨_, rfl, _⟩ | ⟨a, v, tt, ha, hv, htt, e3, e4, e5, hrt, _⟩
        · rfl
        · have q1 := n_a9.mpr ⟨a, ha, e3⟩
          exact absurd ⟨q1.1, q1.2, n_v5.mpr ⟨v, hv, e4⟩, (n_time hj).mpr hrt⟩ hn
      · rcases h2 with ⟨hn, _⟩ | ⟨a, v, tt, ha, hv, htt, e3, e4, e5, hrt, h2⟩
        · obtain ⟨a, ha, e3⟩ := n_a9.mp ⟨hy.1, hy.2.1⟩
          obtain ⟨v, hv, e4⟩ := n_v5.mp hy.2.2.1
          exact absurd ⟨⟨a, v, ha, hv, e3, e4⟩, (n_time hj).mp hy.2.2.2⟩ hn
        · rcases h2 with ⟨_, rfl, _⟩ | ⟨_, k, hk, _, (⟨_, rfl, _⟩ | ⟨hk1, _⟩ | ⟨hk1, _⟩)⟩
          · rfl
          · rfl
          · omega
          · omega
theorem rTk_0 (t : Int64) (i : Nat) : rTk t (rz_I 200, (fun _ _ => 0 : Nat → Nat → Int64), 0) i = (rz_I 200, (fun _ _ => 0 : Nat → Nat → Int64), 0) := by
  induction i with
  | zero => rfl
  | succ i ih =>
    have h0 : ¬ (0 : Int32) < rz_I 200 10 i := by rw [rzo (by decide)]; decide
    show rLost t i (rLate t i (rTk t (rz_I 200, (fun _ _ => 0 : Nat → Nat → Int64), 0) i)) = _
    rw [ih]
    have e1 : rLate t i (rz_I 200, (fun _ _ => 0 : Nat → Nat → Int64), 0) = (rz_I 200, (fun _ _ => 0 : Nat → Nat → Int64), 0) := if_neg (fun z => h0 z.1)
    rw [e1]
    exact if_neg (fun z => h0 z.1)
set_option maxHeartbeats 1000000 in
theorem n_tick {g : mm_G} {M0 M1 M2 M3 : mm_M} {q : Nat} {ad : Nat → Nat} {r1 r2 : Int32} {x rl yl tl cn dl ia : Nat} {t : Int64}
    (h1 : (¬ ((0 : Int64) ≤ t ∧ t ≤ 2000000000) ∧ r1 = (-102) ∧ M1 = M0) ∨ (((0 : Int64) ≤ t ∧ t ≤ 2000000000) ∧ r1 = 0 ∧ M1 = mm_up M0 x (xob rl yl tl cn dl ia t)))
    (h2 : (¬ ((0 : Int64) ≤ t ∧ t ≤ 2000000000) ∧ r2 = (-102) ∧ Rq g M3 M2 q ad (rz_I 200) (fun _ _ => 0 : Nat → Nat → Int64) (va_up (fun _ => 0 : Nat → Int32) 0 0) (0 : Int64)) ∨ (((0 : Int64) ≤ t ∧ t ≤ 2000000000) ∧ Rq g M3 M2 q ad (rTk t ((rz_I 200), (fun _ _ => 0 : Nat → Nat → Int64), 0) 200).1 (rTk t ((rz_I 200), (fun _ _ => 0 : Nat → Nat → Int64), 0) 200).2.1 (va_up (va_up (fun _ => 0 : Nat → Int32) 0 0) 18 (nI (rTk t ((rz_I 200), (fun _ _ => 0 : Nat → Nat → Int64), 0) 200).2.2)) t ∧ r2 = nI (rTk t ((rz_I 200), (fun _ _ => 0 : Nat → Nat → Int64), 0) 200).2.2 - nI 0)) : r1 = r2 := by
  rcases h1 with ⟨n1, rfl, _⟩ | ⟨y1, rfl, _⟩
  · rcases h2 with ⟨_, rfl, _⟩ | ⟨y2, _⟩
    · rfl
    · exact absurd y2 n1
  · rcases h2 with ⟨n2, _⟩ | ⟨_, _, rfl⟩
    · exact absurd y1 n2
    · rw [rTk_0]; rfl
set_option maxHeartbeats 1000000 in
theorem n_alarm {g : mm_G} {M0 M1 M2 M3 : mm_M} {q : Nat} {ad : Nat → Nat} {r1 r2 : Int32} {i u : Int32} {F : Nat → Nat → Int32}
    (h1 : M1 = M0 ∧ (((∀ j v, j < 0 → v < 5 → ¬ (i = nI j ∧ u = nI v)) ∧ r1 = (-1)) ∨ ∃ j v, j < 0 ∧ v < 5 ∧ i = nI j ∧ u = nI v ∧ r1 = F j v))
    (h2 : Rq g M3 M2 q ad (rz_I 200) (fun _ _ => 0 : Nat → Nat → Int64) (va_up (fun _ => 0 : Nat → Int32) 0 0) (0 : Int64) ∧ (((∀ j v, j < 0 → j < 400 → v < 5 → ¬ (i = nI j ∧ u = nI v)) ∧ r2 = (-1)) ∨ ∃ j v, j < 0 ∧ j < 400 ∧ v < 5 ∧ i = nI j ∧ u = nI v ∧ r2 = ((fun _ _ => 0 : Nat → Nat → Int64) 19 (5 * j + v)).toInt32)) : r1 = r2 := by
  obtain ⟨-, ⟨-, rfl⟩ | ⟨j, v, hj, -⟩⟩ := h1
  · obtain ⟨-, ⟨-, rfl⟩ | ⟨j, v, hj, -⟩⟩ := h2
    · rfl
    · omega
  · omega
set_option maxHeartbeats 1000000 in
theorem n_state {g : mm_G} {M0 M1 M2 M3 : mm_M} {q : Nat} {ad : Nat → Nat} {r1 r2 : Int32} {i : Int32}
    (h1 : M1 = M0 ∧ (((∀ j, j < 200 → i ≠ nI j) ∧ r1 = (-101)) ∨ ∃ j, j < 200 ∧ i = nI j ∧ r1 = if ¬ ((fun _ => it0 : Nat → itS) j).2.2.2.2.2.2.2 = 0 then ((fun _ => it0 : Nat → itS) j).1 + 200 else if ¬ ((fun _ => it0 : Nat → itS) j).2.2.2.2.2.2.1 = 0 then ((fun _ => it0 : Nat → itS) j).1 + 100 else ((fun _ => it0 : Nat → itS) j).1))
    (h2 : Rq g M3 M2 q ad (rz_I 200) (fun _ _ => 0 : Nat → Nat → Int64) (va_up (fun _ => 0 : Nat → Int32) 0 0) (0 : Int64) ∧ (((∀ j, j ≤ 199 → i ≠ nI j) ∧ r2 = (-101)) ∨ ∃ j, j ≤ 199 ∧ i = nI j ∧ r2 = (rz_I 200) 7 j + (if ¬ (rz_I 200) 14 j = 0 then 200 else if ¬ (rz_I 200) 13 j = 0 then 100 else 0))) : r1 = r2 := by
  obtain ⟨-, ⟨n1, rfl⟩ | ⟨j, hj, rfl, rfl⟩⟩ := h1
  · obtain ⟨-, ⟨-, rfl⟩ | ⟨j, hj, e, -⟩⟩ := h2
    · rfl
    · exact absurd e (n1 j (by omega))
  · obtain ⟨-, ⟨n2, -⟩ | ⟨j', hj', e, rfl⟩⟩ := h2
    · exact absurd rfl (n2 j (by omega))
    · rw [rz7 (by omega), rzo (by decide), rzo (by decide)]; rfl
set_option maxHeartbeats 1000000 in
theorem n_holiday {g : mm_G} {M0 M1 M2 M3 : mm_M} {q : Nat} {ad : Nat → Nat} {r1 r2 : Int32} {yl da : Nat} {t : Int64}
    (h1 : (¬ (0 ≤ t ∧ t ≤ 20000) ∧ r1 = (-102) ∧ M1 = M0) ∨ ((0 ≤ t ∧ t ≤ 20000) ∧ (((∃ j, j < 0 ∧ (fun _ => 0 : Nat → Int64) j = t) ∧ r1 = 0 ∧ M1 = M0) ∨ ((¬ ∃ j, j < 0 ∧ (fun _ => 0 : Nat → Int64) j = t) ∧ 100 ≤ 0 ∧ r1 = (-104) ∧ M1 = M0) ∨ ((¬ ∃ j, j < 0 ∧ (fun _ => 0 : Nat → Int64) j = t) ∧ 0 < 100 ∧ r1 = 1 ∧ ∃ f', Hl g M1 yl da (0 + 1) f' ∧ insL (fun _ => 0 : Nat → Int64) f' 0 t ∧ ∀ u, u ≠ 3 → u ≠ 15 → mm_same u M0 M1))))
    (h2 : ((∀ j, j ≤ 20000 → t ≠ lN j) ∧ r2 = (-102) ∧ Rq g M3 M2 q ad (rz_I 200) (fun _ _ => 0 : Nat → Nat → Int64) (va_up (fun _ => 0 : Nat → Int32) 0 0) (0 : Int64)) ∨ ∃ j, j ≤ 20000 ∧ t = lN j ∧ ((¬ (rz_I 200) 15 j = 0 ∧ r2 = 0 ∧ Rq g M3 M2 q ad (rz_I 200) (fun _ _ => 0 : Nat → Nat → Int64) (va_up (fun _ => 0 : Nat → Int32) 0 0) (0 : Int64)) ∨ ((rz_I 200) 15 j = 0 ∧ nI 0 = 100 ∧ r2 = (-104) ∧ Rq g M3 M2 q ad (rz_I 200) (fun _ _ => 0 : Nat → Nat → Int64) (va_up (fun _ => 0 : Nat → Int32) 0 0) (0 : Int64)) ∨ ((rz_I 200) 15 j = 0 ∧ ¬ nI 0 = 100 ∧ r2 = 1 ∧ Rq g M3 M2 q ad (up2 (rz_I 200) 15 j 1) (fun _ _ => 0 : Nat → Nat → Int64) (va_up (va_up (fun _ => 0 : Nat → Int32) 0 0) 16 (nI (0 + 1))) (0 : Int64)))) : r1 = r2 := by
  rcases h1 with ⟨n1, rfl, _⟩ | ⟨y1, (⟨⟨j, hj, _⟩, _⟩ | ⟨_, z, _⟩ | ⟨_, _, rfl, _⟩)⟩
  · rcases h2 with ⟨_, rfl, _⟩ | ⟨j, hj, rfl, _⟩
    · rfl
    · exact absurd (lnat_in (hi := 20000) hj (by decide) rfl) n1
  · omega
  · omega
  · rcases h2 with ⟨n2, _⟩ | ⟨j, hj, rfl, (⟨z, _⟩ | ⟨_, z, _⟩ | ⟨_, _, rfl, _⟩)⟩
    · obtain ⟨j, hj, e⟩ := lin_nat (n := 20000) rfl y1
      exact absurd e (n2 j hj)
    · exact absurd (rzo (by decide) j) z
    · exact absurd z (by decide)
    · rfl
set_option maxHeartbeats 1000000 in
theorem n_percentile {g : mm_G} {M0 M1 M2 M3 : mm_M} {q : Nat} {ad : Nat → Nat} {r1 r2 : Int64} {i th : Int32} {fd fs : Nat → Int32}
    (h1 : M1 = M0 ∧ ((¬ ((0 ≤ i ∧ i < 5) ∧ 0 ≤ th ∧ th ≤ 1000) ∧ r1 = (-102)) ∨ (((0 ≤ i ∧ i < 5) ∧ 0 ≤ th ∧ th ≤ 1000) ∧ ∃ rd rk0, r1 = rd.toInt64 ∧ rk0 = (if ((nI (cnt fs i 0) * th + 1000 - 1) / 1000) < 1 then 1 else ((nI (cnt fs i 0) * th + 1000 - 1) / 1000)) ∧ ((∃ j, j < 0 ∧ (fs j = i ∧ nI (cnt fs i (j + 1)) = rk0) ∧ rd = fd j) ∨ ((∀ j, j < 0 → ¬ (fs j = i ∧ nI (cnt fs i (j + 1)) = rk0)) ∧ rd = (-1))))))
    (h2 : Rq g M3 M2 q ad (rz_I 200) (fun _ _ => 0 : Nat → Nat → Int64) (va_up (fun _ => 0 : Nat → Int32) 0 0) (0 : Int64) ∧ (((¬ ∃ j u, j ≤ 4 ∧ u ≤ 1000 ∧ i = nI j ∧ th = nI u) ∧ r2 = (-102)) ∨ ∃ j u, j ≤ 4 ∧ u ≤ 1000 ∧ i = nI j ∧ th = nI u ∧ (((fun _ => 0 : Nat → Nat) j = 0 ∧ r2 = (-1)) ∨ (0 < (fun _ => 0 : Nat → Nat) j ∧ r2 = (bst (fun z => (rz_I 200) 23 (4200 * j + z)) ((fun _ => 0 : Nat → Nat) j) (rkv ((fun _ => 0 : Nat → Nat) j) u) ((fun _ => 0 : Nat → Nat) j)).toInt64)))) : r1 = r2 := by
  have key : ((0 ≤ i ∧ i < 5) ∧ 0 ≤ th ∧ th ≤ 1000) ↔ ∃ j u : Nat, j ≤ 4 ∧ u ≤ 1000 ∧ i = nI j ∧ th = nI u := by
    constructor
    · intro h
      obtain ⟨j, hj, e⟩ := n_v5.mp h.1
      obtain ⟨u, hu, e2⟩ := nI_of2 (n := 1000) rfl (Int32.not_lt.mpr h.2.1) h.2.2
      exact ⟨j, u, hj, hu, e, e2⟩
    · rintro ⟨j, u, hj, hu, rfl, rfl⟩
      exact ⟨sv_in (by omega), nI_pos' (by omega), show nI u ≤ nI 1000 from nI_le hu (by decide)⟩
  obtain ⟨-, ⟨n1, rfl⟩ | ⟨y1, rd, rk0, rfl, -, (⟨j, hj, -⟩ | ⟨-, rfl⟩)⟩⟩ := h1
  · obtain ⟨-, ⟨-, rfl⟩ | ⟨j, u, hj, hu, e1, e2, -⟩⟩ := h2
    · rfl
    · exact absurd (key.mpr ⟨j, u, hj, hu, e1, e2⟩) n1
  · omega
  · obtain ⟨-, ⟨n2, -⟩ | ⟨j, u, hj, hu, e1, e2, (⟨-, rfl⟩ | ⟨z, -⟩)⟩⟩ := h2
    · exact absurd (key.mp y1) n2
    · rfl
    · exact absurd z (Nat.lt_irrefl 0)
set_option maxHeartbeats 1000000 in
theorem n_found {g : mm_G} {M0 M1 M2 M3 : mm_M} {q : Nat} {ad : Nat → Nat} {r1 r2 : Int32} {i : Int32} {t : Int64} {fa : Nat → Nat}
    (h1 : ((∀ j, j < 200 → i ≠ nI j) ∧ r1 = (-101) ∧ M1 = M0) ∨ ∃ j, j < 200 ∧ i = nI j ∧ ((¬ (0 ≤ t ∧ t ≤ 1000000000 ∧ (((fun _ => it0 : Nat → itS) j).1 = (-1) ∨ ((fun _ => it0 : Nat → itS) j).2.2.1 ≤ t)) ∧ r1 = (-102) ∧ M1 = M0) ∨ ((0 ≤ t ∧ t ≤ 1000000000 ∧ (((fun _ => it0 : Nat → itS) j).1 = (-1) ∨ ((fun _ => it0 : Nat → itS) j).2.2.1 ≤ t)) ∧ ((fun _ => it0 : Nat → itS) j).2.2.2.2.2.2.2 = 0 ∧ r1 = 0 ∧ M1 = M0) ∨ ((0 ≤ t ∧ t ≤ 1000000000 ∧ (((fun _ => it0 : Nat → itS) j).1 = (-1) ∨ ((fun _ => it0 : Nat → itS) j).2.2.1 ≤ t)) ∧ ¬ ((fun _ => it0 : Nat → itS) j).2.2.2.2.2.2.2 = 0 ∧ r1 = 1 ∧ M1 = mm_up M0 (fa j) (itc ((fun _ => it0 : Nat → itS) j).1 ((fun _ => it0 : Nat → itS) j).2.1 t 0 ((fun _ => it0 : Nat → itS) j).2.2.2.2.1 ((fun _ => it0 : Nat → itS) j).2.2.2.2.2.1 0 0))))
    (h2 : ((∀ j, j ≤ 199 → i ≠ nI j) ∧ r2 = (-101) ∧ Rq g M3 M2 q ad (rz_I 200) (fun _ _ => 0 : Nat → Nat → Int64) (va_up (fun _ => 0 : Nat → Int32) 0 0) (0 : Int64)) ∨ ∃ j, j ≤ 199 ∧ i = nI j ∧ ((¬ rTime (rz_I 200) (fun _ _ => 0 : Nat → Nat → Int64) j t ∧ r2 = (-102) ∧ Rq g M3 M2 q ad (rz_I 200) (fun _ _ => 0 : Nat → Nat → Int64) (va_up (fun _ => 0 : Nat → Int32) 0 0) (0 : Int64)) ∨ (rTime (rz_I 200) (fun _ _ => 0 : Nat → Nat → Int64) j t ∧ (rz_I 200) 14 j = 0 ∧ r2 = 0 ∧ Rq g M3 M2 q ad (rz_I 200) (fun _ _ => 0 : Nat → Nat → Int64) (va_up (fun _ => 0 : Nat → Int32) 0 0) (0 : Int64)) ∨ (rTime (rz_I 200) (fun _ _ => 0 : Nat → Nat → Int64) j t ∧ ¬ (rz_I 200) 14 j = 0 ∧ r2 = 1 ∧ Rq g M3 M2 q ad (rEnd (rz_I 200) j) (up2 (fun _ _ => 0 : Nat → Nat → Int64) 9 j t) (va_up (fun _ => 0 : Nat → Int32) 0 0) (0 : Int64)))) : r1 = r2 := by
  rcases h1 with ⟨n1, rfl, _⟩ | ⟨j, hj, rfl, h1⟩
  · rcases h2 with ⟨_, rfl, _⟩ | ⟨j, hj, e, _⟩
    · rfl
    · exact absurd e (n1 j (by omega))
  · rcases h2 with ⟨n2, _⟩ | ⟨j', hj', e, h2⟩
    · exact absurd rfl (n2 j (by omega))
    · have ej : j = j' := (nI_eq (by omega) (by omega)).mp e
      subst ej
      rcases h1 with ⟨m1, rfl, _⟩ | ⟨m1, _, rfl, _⟩ | ⟨_, z, _⟩
      · rcases h2 with ⟨_, rfl, _⟩ | ⟨m2, _⟩ | ⟨m2, _⟩
        · rfl
        · exact absurd ((n_time hj).mpr m2) m1
        · exact absurd ((n_time hj).mpr m2) m1
      · rcases h2 with ⟨m2, _⟩ | ⟨_, _, rfl, _⟩ | ⟨_, z, _⟩
        · exact absurd ((n_time hj).mp m1) m2
        · rfl
        · exact absurd (rzo (by decide) j) z
      · exact absurd rfl z
theorem sel_0 (pl : Option Nat) (p : Nat) : sel (rz_I 200) pl p = none := by
  induction p with
  | zero => rfl
  | succ p ih =>
    unfold sel
    rw [if_neg (fun z => z.1 (by rw [rzo (by decide)]; decide))]
    exact ih
theorem clp_0 (k : Nat) : clp (rz_I 200) k = none := by
  cases k with
  | zero => rfl
  | succ k =>
    unfold clp
    split
    · exact sel_0 _ _
    · split
      · rfl
      · exact sel_0 _ _
set_option maxHeartbeats 1000000 in
theorem n_cluster {g : mm_G} {M0 M1 M2 M3 : mm_M} {q : Nat} {ad : Nat → Nat} {r1 r2 : Int32} {i u : Int32}
    (h1 : M1 = M0 ∧ (((∀ j, j < 50 → ¬ (3 ≤ (fun _ => 0 : Nat → Int32) j ∧ nI (cbN (fun _ => 0 : Nat → Int32) (fun _ => 0 : Nat → Int32) j 50) = i)) ∧ r1 = (-1)) ∨ ∃ k, k < 50 ∧ (3 ≤ (fun _ => 0 : Nat → Int32) k ∧ nI (cbN (fun _ => 0 : Nat → Int32) (fun _ => 0 : Nat → Int32) k 50) = i) ∧ (∀ j, j < k → ¬ (3 ≤ (fun _ => 0 : Nat → Int32) j ∧ nI (cbN (fun _ => 0 : Nat → Int32) (fun _ => 0 : Nat → Int32) j 50) = i)) ∧ ((u = nI 0 ∧ r1 = nI k) ∨ (u = nI 1 ∧ r1 = (fun _ => 0 : Nat → Int32) k) ∨ (u = nI 2 ∧ r1 = (fun _ => 0 : Nat → Int32) k) ∨ ((∀ v, v < 3 → u ≠ nI v) ∧ r1 = (-1)))))
    (h2 : Rq g M3 M2 q ad (rz_I 200) (fun _ _ => 0 : Nat → Nat → Int64) (va_up (fun _ => 0 : Nat → Int32) 0 0) (0 : Int64) ∧ ∃ o, clFin (rz_I 200) i u o ∧ r2 = clA (rz_I 200) u o) : r1 = r2 := by
  have e2 : r2 = -1 := by
    obtain ⟨-, o, hf, rfl⟩ := h2
    have ho : o = none := by
      rcases hf with ⟨_, h⟩ | ⟨_, (⟨_, h⟩ | ⟨ii, _, _, h⟩)⟩
      · exact h
      · exact h
      · rw [h, clp_0]
    rw [ho]; rfl
  rw [e2]
  obtain ⟨-, ⟨-, rfl⟩ | ⟨k, hk, ⟨z, -⟩, -⟩⟩ := h1
  · rfl
  · exact absurd (show (3 : Int32) ≤ 0 from z) (by decide)
set_option maxHeartbeats 1000000 in
theorem n_failing {g : mm_G} {M0 M1 M2 M3 : mm_M} {q : Nat} {ad : Nat → Nat} {r1 r2 : Int32} {i : Int32} {af : Nat → Nat}
    (h1 : M1 = M0 ∧ (((∀ j, j < 0 → i ≠ nI j) ∧ r1 = 0) ∨ ∃ j nu st pl sv wi fl hf, j < 0 ∧ i = nI j ∧ M0 (af j) = some (rowc nu st pl sv wi fl hf) ∧ r1 = nu))
    (h2 : Rq g M3 M2 q ad (rz_I 200) (fun _ _ => 0 : Nat → Nat → Int64) (va_up (fun _ => 0 : Nat → Int32) 0 0) (0 : Int64) ∧ (((∀ j, j < 0 → i ≠ nI j) ∧ r2 = 0) ∨ ∃ j, j < 0 ∧ i = nI j ∧ r2 = (rz_I 200) 25 j)) : r1 = r2 := by
  obtain ⟨-, ⟨-, rfl⟩ | ⟨j, nu, st, pl, sv, wi, fl, hf, hj, -⟩⟩ := h1
  · obtain ⟨-, ⟨-, rfl⟩ | ⟨j, hj, -⟩⟩ := h2
    · rfl
    · omega
  · omega
