/-! NUMBERS: an injection into the numbers below m; how many below n are so -/
theorem inj_le : ∀ (m n : Nat) (f : Nat → Nat), (∀ i, i < n → f i < m) → (∀ i j, i < n → j < n → f i = f j → i = j) → n ≤ m
  | 0, n, f, h, _ => by
    rcases Nat.eq_zero_or_pos n with z | z
    · omega
    · exact absurd (h 0 z) (Nat.not_lt_zero _)
  | m + 1, n, f, h, hi => by
    rcases Nat.eq_zero_or_pos n with z | z
    · omega
    · by_cases hx : ∃ i, i < n ∧ f i = m
      · obtain ⟨i, hin, him⟩ := hx
        have k := inj_le m (n - 1) (fun j => if j = i then f (n - 1) else f j) (fun j hj => by
          show (if j = i then f (n - 1) else f j) < m
          by_cases y : j = i
          · rw [if_pos y]
            have h1 := h (n - 1) (by omega)
            have h2 : f (n - 1) ≠ m := fun q => by have := hi (n - 1) i (by omega) hin (q.trans him.symm); omega
            omega
          · rw [if_neg y]
            have h1 := h j (by omega)
            have h2 : f j ≠ m := fun q => y (hi j i (by omega) hin (q.trans him.symm))
            omega) (fun a b ha hb q => by
          have q : (if a = i then f (n - 1) else f a) = (if b = i then f (n - 1) else f b) := q
          by_cases y1 : a = i
          · by_cases y2 : b = i
            · omega
            · rw [if_pos y1, if_neg y2] at q
              have := hi (n - 1) b (by omega) (by omega) q; omega
          · by_cases y2 : b = i
            · rw [if_neg y1, if_pos y2] at q
              have := hi a (n - 1) (by omega) (by omega) q; omega
            · rw [if_neg y1, if_neg y2] at q
              exact hi a b (by omega) (by omega) q)
        omega
      · have k := inj_le m n f (fun i hin => by
          have h1 := h i hin
          have h2 : f i ≠ m := fun q => hx ⟨i, hin, q⟩
          omega) hi
        omega
/-- an injection into 1 .. m that misses k -/
theorem inj_miss {m n k : Nat} {f : Nat → Nat} (hk1 : 1 ≤ k) (hkm : k ≤ m) (h : ∀ i, i < n → 1 ≤ f i ∧ f i ≤ m) (hi : ∀ i j, i < n → j < n → f i = f j → i = j) (hno : ∀ i, i < n → f i ≠ k) : n < m := by
  have q := inj_le (m - 1) n (fun i => if k < f i then f i - 2 else f i - 1) (fun i hin => by
    show (if k < f i then f i - 2 else f i - 1) < m - 1
    have h1 := h i hin
    have h2 := hno i hin
    split <;> omega) (fun i j hin hjn e => by
    have e : (if k < f i then f i - 2 else f i - 1) = (if k < f j then f j - 2 else f j - 1) := e
    have h1 := h i hin
    have h2 := hno i hin
    have h3 := h j hjn
    have h4 := hno j hjn
    refine hi i j hin hjn ?_
    split at e <;> split at e <;> omega)
  omega
/-- how many below n -/
def many (P : Nat → Bool) : Nat → Nat
  | 0 => 0
  | n + 1 => if P n = true then many P n + 1 else many P n
theorem many_le (P : Nat → Bool) : ∀ n, many P n ≤ n
  | 0 => Nat.le_refl _
  | n + 1 => by
    have := many_le P n
    unfold many
    split <;> omega
theorem many_eq {P Q : Nat → Bool} : ∀ n, (∀ i, i < n → P i = Q i) → many P n = many Q n
  | 0, _ => rfl
  | n + 1, h => by
    unfold many
    rw [h n (by omega), many_eq n (fun i hi => h i (by omega))]
theorem many_off {P Q : Nat → Bool} {j : Nat} : ∀ n, j < n → (∀ i, i < n → i ≠ j → P i = Q i) → P j = true → Q j = false → many P n = many Q n + 1
  | 0, h, _, _, _ => absurd h (by omega)
  | n + 1, hj, h, hp, hq => by
    unfold many
    by_cases z : j = n
    · subst z
      rw [hp, hq, if_pos rfl, if_neg (by decide), many_eq j (fun i hi => h i (by omega) (by omega))]
    · have k := many_off n (by omega) (fun i hi hne => h i (by omega) hne) hp hq
      rw [h n (by omega) (by omega)]
      split <;> omega
theorem many_up {P Q : Nat → Bool} {j : Nat} (n : Nat) (hj : j < n) (h : ∀ i, i < n → i ≠ j → P i = Q i) : many Q n ≤ many P n + 1 := by
  cases hp : P j <;> cases hq : Q j
  · rw [many_eq (P := P) (Q := Q) n (fun i hi => by
      by_cases z : i = j
      · rw [z, hp, hq]
      · exact h i hi z)]
    omega
  · rw [many_off (P := Q) (Q := P) n hj (fun i hi hne => (h i hi hne).symm) hq hp]; omega
  · have := many_off n hj h hp hq; omega
  · rw [many_eq (P := P) (Q := Q) n (fun i hi => by
      by_cases z : i = j
      · rw [z, hp, hq]
      · exact h i hi z)]
    omega
theorem many_dn {P Q : Nat → Bool} {j : Nat} (n : Nat) (hj : j < n) (h : ∀ i, i < n → i ≠ j → P i = Q i) (hq : Q j = false) : many Q n ≤ many P n := by
  cases hp : P j
  · rw [many_eq (P := P) (Q := Q) n (fun i hi => by
      by_cases z : i = j
      · rw [z, hp, hq]
      · exact h i hi z)]
    exact Nat.le_refl _
  · have := many_off n hj h hp hq; omega
/-! THE ORDER OF CLUSTERS: strict where something was begun -/
theorem prod_lt {a b c d : Nat} (ha : a < 2 ^ 20) (hb : b < 2 ^ 20) (hc : c < 2 ^ 20) (hd : d < 2 ^ 20) : ((nI a).toInt64 * (nI b).toInt64 < (nI c).toInt64 * (nI d).toInt64 ↔ a * b < c * d) ∧ ((nI a).toInt64 * (nI b).toInt64 = (nI c).toInt64 * (nI d).toInt64 ↔ a * b = c * d) := by
  have h1 : a * b < 2 ^ 40 := by
    have := Nat.mul_lt_mul'' ha hb
    omega
  have h2 : c * d < 2 ^ 40 := by
    have := Nat.mul_lt_mul'' hc hd
    omega
  have e1 : ((nI a).toInt64 * (nI b).toInt64).toInt = ((a * b : Nat) : Int) := by
    rw [nI_l (by omega), nI_l (by omega), lN_mul, pk_lT (by omega)]
  have e2 : ((nI c).toInt64 * (nI d).toInt64).toInt = ((c * d : Nat) : Int) := by
    rw [nI_l (by omega), nI_l (by omega), lN_mul, pk_lT (by omega)]
  constructor
  · rw [Int64.lt_iff_toInt_lt, e1, e2]; omega
  · rw [← Int64.toInt_inj, e1, e2]; omega
