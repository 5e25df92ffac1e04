/-! THE DUE TIME: the class's sum over the sorted holidays and the reference's walk come to the same -/
def dSt (t f d : Nat) : Nat := if (if t < f * 86400 then f * 86400 else t) < f * 86400 + 86400 ∧ (if t < f * 86400 then f * 86400 else t) < d then d + (f * 86400 + 86400 - (if t < f * 86400 then f * 86400 else t)) else d
def dN (fn : Nat → Nat) (t w : Nat) : Nat → Nat
  | 0 => t + w
  | i + 1 => dSt t (fn i) (dN fn t w i)
theorem dSt_past {t f d : Nat} (h : f < t / 86400) : dSt t f d = d := by
  have h1 : f * 86400 + 86400 ≤ t := by omega
  unfold dSt
  rw [if_neg (by rw [if_neg (by omega)]; omega)]
theorem dSt_now {t f d : Nat} (h : f = t / 86400) (hd : t < d) : dSt t f d = d + (86400 * (t / 86400 + 1) - t) := by
  have h1 : f * 86400 ≤ t ∧ t < f * 86400 + 86400 := by omega
  unfold dSt
  rw [if_neg (show ¬ t < f * 86400 by omega), if_pos ⟨h1.2, hd⟩]
  omega
theorem dSt_next {t f d : Nat} (h : t / 86400 < f) : dSt t f d = if f * 86400 < d then d + 86400 else d := by
  have h1 : t < f * 86400 := by omega
  unfold dSt
  rw [if_pos h1]
  by_cases z : f * 86400 < d
  · rw [if_pos z, if_pos ⟨by omega, z⟩]; omega
  · rw [if_neg z, if_neg (fun y => z y.2)]
theorem dSt_le {t f d : Nat} : dSt t f d ≤ d + 86400 := by
  unfold dSt
  split <;> split <;> omega
theorem dN_le1 {a b y z k : Nat} (h1 : y ≤ a + b + 86400 * k) (h2 : z ≤ y + 86400) : z ≤ a + b + 86400 * (k + 1) := by
  rw [Nat.mul_succ, ← Nat.add_assoc]
  exact Nat.le_trans h2 (Nat.add_le_add_right h1 _)
theorem dN_le (fn : Nat → Nat) (t w : Nat) : ∀ k, dN fn t w k ≤ t + w + 86400 * k
  | 0 => Nat.le_refl _
  | k + 1 => by
    have h1 := dN_le fn t w k
    have h2 := dSt_le (t := t) (f := fn k) (d := dN fn t w k)
    exact dN_le1 h1 h2
theorem dN_0 (fn : Nat → Nat) (t : Nat) : ∀ k, dN fn t 0 k = t
  | 0 => rfl
  | k + 1 => by
    show dSt t (fn k) (dN fn t 0 k) = t
    rw [dN_0 fn t k]
    unfold dSt
    rw [if_neg (fun z => by have := z.2; split at this <;> omega)]
/-- to the next day, which isn't a holiday -/
theorem dN_on {fn : Nat → Nat} {t w : Nat} {c : Nat} (hno : ∀ i, i < c → fn i ≠ t / 86400) (hw : 86400 * (t / 86400 + 1) - t < w) : ∀ k, k ≤ c → dN fn t w k = dN fn (86400 * (t / 86400 + 1)) (w - (86400 * (t / 86400 + 1) - t)) k
  | 0, _ => by show t + w = 86400 * (t / 86400 + 1) + (w - (86400 * (t / 86400 + 1) - t)); omega
  | k + 1, hk => by
    show dSt t (fn k) (dN fn t w k) = dSt (86400 * (t / 86400 + 1)) (fn k) (dN fn _ _ k)
    rw [← dN_on hno hw k (by omega)]
    have e : 86400 * (t / 86400 + 1) / 86400 = t / 86400 + 1 := by omega
    rcases Nat.lt_trichotomy (fn k) (t / 86400) with z | z | z
    · rw [dSt_past z, dSt_past (by rw [e]; omega)]
    · exact absurd z (hno k (by omega))
    · rw [dSt_next z]
      by_cases y : fn k = t / 86400 + 1
      · by_cases q : fn k * 86400 < dN fn t w k
        · rw [if_pos q, dSt_now (by rw [e]; exact y) (by omega), e]; omega
        · rw [if_neg q]
          unfold dSt
          rw [if_neg (show ¬ 86400 * (t / 86400 + 1) < fn k * 86400 by omega), if_neg (fun x => by have := x.2; omega)]
      · rw [dSt_next (by rw [e]; omega)]
/-- it ends this day -/
theorem dN_end {fn : Nat → Nat} {t w : Nat} {c : Nat} (hno : ∀ i, i < c → fn i ≠ t / 86400) (hw : w ≤ 86400 * (t / 86400 + 1) - t) : ∀ k, k ≤ c → dN fn t w k = t + w
  | 0, _ => rfl
  | k + 1, hk => by
    show dSt t (fn k) (dN fn t w k) = t + w
    rw [dN_end hno hw k (by omega)]
    rcases Nat.lt_trichotomy (fn k) (t / 86400) with z | z | z
    · exact dSt_past z
    · exact absurd z (hno k (by omega))
    · rw [dSt_next z, if_neg (by omega)]
/-- over a holiday -/
theorem dN_hol {fn : Nat → Nat} {t w : Nat} {c i0 : Nat} (hso : ∀ i j, i < j → j < c → fn i < fn j) (hi : i0 < c) (he : fn i0 = t / 86400) (hw : 0 < w) : ∀ k, k ≤ c → (k ≤ i0 → dN fn t w k = t + w ∧ dN fn (86400 * (t / 86400 + 1)) w k = 86400 * (t / 86400 + 1) + w) ∧ (i0 < k → dN fn t w k = dN fn (86400 * (t / 86400 + 1)) w k)
  | 0, _ => ⟨fun _ => ⟨rfl, rfl⟩, fun z => absurd z (by omega)⟩
  | k + 1, hk => by
    have ih := dN_hol hso hi he hw k (by omega)
    have e : 86400 * (t / 86400 + 1) / 86400 = t / 86400 + 1 := by omega
    refine ⟨fun z => ?_, fun z => ?_⟩
    · have hl := hso k i0 (by omega) hi
      obtain ⟨q1, q2⟩ := ih.1 (by omega)
      refine ⟨?_, ?_⟩
      · show dSt t (fn k) (dN fn t w k) = _
        rw [q1]; exact dSt_past (by omega)
      · show dSt _ (fn k) (dN fn _ w k) = _
        rw [q2]; exact dSt_past (by rw [e]; omega)
    · show dSt t (fn k) (dN fn t w k) = dSt _ (fn k) (dN fn _ w k)
      by_cases y : k = i0
      · obtain ⟨q1, q2⟩ := ih.1 (by omega)
        rw [q1, q2, y, dSt_now he (by omega), dSt_past (by rw [e]; omega)]
        have : t < 86400 * (t / 86400 + 1) := by omega
        omega
      · rw [← ih.2 (by omega)]
        have hl := hso i0 k (by omega) (by omega)
        rw [dSt_next (by omega)]
        by_cases y2 : fn k = t / 86400 + 1
        · by_cases q : fn k * 86400 < dN fn t w k
          · rw [if_pos q, dSt_now (by rw [e]; exact y2) (by omega), e]; omega
          · rw [if_neg q]
            unfold dSt
            rw [if_neg (show ¬ 86400 * (t / 86400 + 1) < fn k * 86400 by omega), if_neg (fun x => by have := x.2; omega)]
        · rw [dSt_next (by rw [e]; omega)]
theorem bh_dN {h : Nat → Int32} {fn : Nat → Nat} {c : Nat} (hle : ∀ i, i < c → fn i ≤ 20000) (hso : ∀ i j, i < j → j < c → fn i < fn j) (hh : ∀ j, j ≤ 20000 → (¬ h j = 0 ↔ ∃ i, i < c ∧ fn i = j)) : ∀ n t w, w + (20001 - t / 86400) < n → bh h n t w = dN fn t w c
  | 0, t, w, hn => absurd hn (by omega)
  | n + 1, t, w, hn => by
    unfold bh
    by_cases z : w = 0
    · rw [if_pos z, z]; exact (dN_0 fn t c).symm
    · rw [if_neg z]
      have e : 86400 * (t / 86400 + 1) / 86400 = t / 86400 + 1 := by omega
      by_cases y : t / 86400 ≤ 20000 ∧ ¬ h (t / 86400) = 0
      · rw [if_pos y, bh_dN hle hso hh n _ _ (by rw [e]; omega)]
        obtain ⟨i0, hi, he⟩ := (hh _ y.1).mp y.2
        exact ((dN_hol hso hi he (by omega) c (Nat.le_refl _)).2 hi).symm
      · rw [if_neg y]
        have hno : ∀ i, i < c → fn i ≠ t / 86400 := fun i hi q => y ⟨by rw [← q]; exact hle i hi, (hh _ (by rw [← q]; exact hle i hi)).mpr ⟨i, hi, q⟩⟩
        by_cases x : 86400 * (t / 86400 + 1) - t < w
        · rw [if_pos x, bh_dN hle hso hh n _ _ (by rw [e]; omega)]
          exact (dN_on hno x c (Nat.le_refl _)).symm
        · rw [if_neg x]
          have hb : bh h n (t + w) 0 = t + w := by
            cases n with
            | zero => rfl
            | succ n => unfold bh; rw [if_pos rfl]
          rw [hb]
          exact (dN_end hno (by omega) c (Nat.le_refl _)).symm
theorem dA_dN {f : Nat → Int64} {fn : Nat → Nat} {c t w : Nat} (hf : ∀ i, i < c → f i = lN (fn i) ∧ fn i ≤ 20000) (hc : c ≤ 100) (ht : t ≤ 1000000000) (hw : w ≤ 10000000) : ∀ k, k ≤ c → dA f (lN t) (lN w) k = lN (dN fn t w k)
  | 0, _ => lN_add t w
  | k + 1, hk => by
    have ih := dA_dN hf hc ht hw k (by omega)
    have hb := dN_le fn t w k
    obtain ⟨e1, e2⟩ := hf k (by omega)
    show (if mxl (f k * 86400) (lN t) < f k * 86400 + 86400 ∧ mxl (f k * 86400) (lN t) < dA f (lN t) (lN w) k then dA f (lN t) (lN w) k + (f k * 86400 + 86400 - mxl (f k * 86400) (lN t)) else dA f (lN t) (lN w) k) = lN (dSt t (fn k) (dN fn t w k))
    rw [ih, e1, l864, lN_mul, lN_add]
    have em : mxl (lN (fn k * 86400)) (lN t) = lN (if t < fn k * 86400 then fn k * 86400 else t) := by
      unfold mxl
      by_cases z : t < fn k * 86400
      · rw [if_pos z, if_pos ((lN_lt (by omega) (by omega)).mpr z)]
      · rw [if_neg z, if_neg (fun y => z ((lN_lt (by omega) (by omega)).mp y))]
    rw [em]
    unfold dSt
    generalize hB : (if t < fn k * 86400 then fn k * 86400 else t) = B
    have hB2 : B < 2 ^ 31 := by rw [← hB]; split <;> omega
    have q1 : lN B < lN (fn k * 86400 + 86400) ↔ B < fn k * 86400 + 86400 := lN_lt hB2 (by omega)
    have q2 : lN B < lN (dN fn t w k) ↔ B < dN fn t w k := lN_lt hB2 (by omega)
    by_cases z : B < fn k * 86400 + 86400 ∧ B < dN fn t w k
    · rw [if_pos z, if_pos ⟨q1.mpr z.1, q2.mpr z.2⟩, lN_sub (by omega), lN_add]
    · rw [if_neg z, if_neg (fun y => z ⟨q1.mp y.1, q2.mp y.2⟩)]
/-- both due times -/
theorem due_eq {X : XV} {Y : RV} (h : CrH X Y) (hc : X.ch ≤ 100) {t w : Nat} (ht : t ≤ 1000000000) (hw : w ≤ 10000000) : dA X.fh (lN t) (lN w) X.ch = lN (bh (Y.I 15) (w + 20002) t w) ∧ bh (Y.I 15) (w + 20002) t w ≤ 1100000000 := by
  obtain ⟨_, ⟨fn, hfn, hso⟩, hI⟩ := h
  have e := bh_dN (h := Y.I 15) (fn := fn) (c := X.ch) (fun i hi => (hfn i hi).2) hso (fun j hj => by
    rw [hI j hj]
    constructor
    · rintro ⟨i, hi, e⟩
      rw [(hfn i hi).1, lN_eq (by have := (hfn i hi).2; omega) (by omega)] at e
      exact ⟨i, hi, e⟩
    · rintro ⟨i, hi, e⟩
      exact ⟨i, hi, by rw [(hfn i hi).1, e]⟩) (w + 20002) t w (by omega)
  rw [e]
  have hb := dN_le fn t w X.ch
  exact ⟨dA_dN hfn hc ht hw X.ch (Nat.le_refl _), by omega⟩
