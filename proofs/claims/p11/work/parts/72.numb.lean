/-! NUMBERS: the two sides' bounds -/
theorem rzo {k : Nat} (h : k ≠ 7) (j : Nat) : rz_I 200 k j = 0 := if_neg (fun z => h z.1)
theorem ti32 (x : Int32) : x.toInt64.toInt = x.toInt := Int32.toInt_toInt64 x
theorem n_st {st : Int32} : (0 ≤ st ∧ st < 9) ↔ (0 ≤ st.toInt64 ∧ st.toInt64 ≤ 8) := by
  rw [Int32.le_iff_toInt_le, Int32.lt_iff_toInt_lt, Int64.le_iff_toInt_le, Int64.le_iff_toInt_le, ti32, show (0 : Int32).toInt = 0 from rfl, show (9 : Int32).toInt = 9 from rfl, show (0 : Int64).toInt = 0 from rfl, show (8 : Int64).toInt = 8 from rfl]
  omega
theorem n_pl {st : Int32} : (st = (-1) ∨ (0 ≤ st ∧ st < 50)) ↔ ((-1) ≤ st.toInt64 ∧ st.toInt64 ≤ 49) := by
  rw [← Int32.toInt_inj, Int32.le_iff_toInt_le, Int32.lt_iff_toInt_lt, Int64.le_iff_toInt_le, Int64.le_iff_toInt_le, ti32, show (0 : Int32).toInt = 0 from rfl, show (50 : Int32).toInt = 50 from rfl, show (-1 : Int32).toInt = -1 from rfl, show (-1 : Int64).toInt = -1 from rfl, show (49 : Int64).toInt = 49 from rfl]
  omega
theorem n_sv {st : Int32} : (st = (-1) ∨ (0 ≤ st ∧ st < 5)) ↔ ((-1) ≤ st.toInt64 ∧ st.toInt64 ≤ 4) := by
  rw [← Int32.toInt_inj, Int32.le_iff_toInt_le, Int32.lt_iff_toInt_lt, Int64.le_iff_toInt_le, Int64.le_iff_toInt_le, ti32, show (0 : Int32).toInt = 0 from rfl, show (5 : Int32).toInt = 5 from rfl, show (-1 : Int32).toInt = -1 from rfl, show (-1 : Int64).toInt = -1 from rfl, show (4 : Int64).toInt = 4 from rfl]
  omega
theorem n_rc {st pl sv : Int32} {wi : Int64} : ((0 ≤ st ∧ st < 9) ∧ (pl = (-1) ∨ (0 ≤ pl ∧ pl < 50)) ∧ (sv = (-1) ∨ (0 ≤ sv ∧ sv < 5)) ∧ (0 ≤ wi ∧ wi ≤ 10000000)) ↔ rCond st pl sv wi := by
  rw [n_st, n_pl, n_sv]
theorem n_a9 {st : Int32} : (0 ≤ st ∧ st ≤ 9) ↔ ∃ a : Nat, a ≤ 9 ∧ st = nI a := by
  constructor
  · intro h
    exact nI_of2 (n := 9) rfl (Int32.not_lt.mpr h.1) h.2
  · rintro ⟨a, ha, rfl⟩
    exact ⟨nI_pos' (by omega), show nI a ≤ nI 9 from nI_le ha (by decide)⟩
theorem n_v5 {sv : Int32} : (0 ≤ sv ∧ sv < 5) ↔ ∃ a : Nat, a ≤ 4 ∧ sv = nI a := by
  constructor
  · intro h
    obtain ⟨j, hj, e⟩ := in_sv h
    exact ⟨j, by omega, e⟩
  · rintro ⟨a, ha, rfl⟩
    exact sv_in (by omega)
