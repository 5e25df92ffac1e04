/-! SMALL METHODS: what stays within one object -/
def b32 (p : Prop) [Decidable p] : Int32 := if p then 1 else 0
theorem b32_t {p : Prop} [Decidable p] (h : p) : 1 = b32 p := by simp [b32, h]
theorem b32_f {p : Prop} [Decidable p] (h : ¬ p) : 0 = b32 p := by simp [b32, h]
def bo (x : Int32) : Prop := x = 0 ∨ x = 1
theorem bo_0 : bo 0 := Or.inl rfl
theorem bo_1 : bo 1 := Or.inr rfl
theorem bo_n {x : Int32} (h : bo x) : narrow .boolean (.int x) = .int x := by rcases h with rfl | rfl <;> rfl
theorem bo_f {x : Int32} (h : bo x) : fits .boolean (.int x) = true := by rcases h with rfl | rfl <;> rfl
theorem b32_bo (p : Prop) [Decidable p] : bo (b32 p) := by
  by_cases h : p
  · exact Or.inr (b32_t h).symm
  · exact Or.inl (b32_f h).symm
theorem b32_eq0 {p : Prop} [Decidable p] : b32 p = 0 ↔ ¬ p := by
  by_cases h : p <;> simp [b32, h]
theorem b32_ne0 {p : Prop} [Decidable p] (h : ¬ b32 p = 0) : p := Decidable.byContradiction (fun q => h (b32_eq0.mpr q))
set_option maxHeartbeats 4000000 in
set_option maxRecDepth 100000 in
theorem c_X_isItem (l : Launch) (g : mm_G) (M : mm_M) (x : Int32) : Ci l g y_X_isItem b_X_isItem 1 .boolean (rk 0 0 0 0) M [.int x] (fun r M' => M' = M ∧ r = b32 (0 ≤ x ∧ x < 200)) := by
  refine mm_enter (by decide) (Nat.le_of_ble_eq_true rfl) (fun pG eV s m args below meth cdx ls Q E hml hr hlk hnm hZ hl eQ => ?_)
  have hx := E.1
  have hb := E.2.1
  have hl : lv_has ls 1 [(0, .int x)] := hl
  refine lv_iload_n hx hb d_X_isItem_0 rfl (lv_at hl 0 rfl) ?_
  refine lv_if_lt (tgt := 15) hx hb d_X_isItem_1 (by decide) (fun c1 => ?_) (fun c1 => ?_)
  · refine lv_iconst (v := 0) hx hb d_X_isItem_15 (by decide) ?_
    exact mm_zret (v := 0) E hr hlk eQ hZ rfl d_X_isItem_16 ⟨_, rfl, rfl, b32_f (fun q => absurd q.1 (Int32.not_le.mpr c1))⟩
  · refine lv_iload_n hx hb d_X_isItem_4 rfl (lv_at hl 0 rfl) ?_
    refine lv_sipush (v := 200) hx hb d_X_isItem_5 (by decide) ?_
    refine lv_icmp_ge (tgt := 15) hx hb d_X_isItem_8 (by decide) (fun c8 => ?_) (fun c8 => ?_)
    · refine lv_iconst (v := 0) hx hb d_X_isItem_15 (by decide) ?_
      exact mm_zret (v := 0) E hr hlk eQ hZ rfl d_X_isItem_16 ⟨_, rfl, rfl, b32_f (fun q => absurd q.2 (Int32.not_lt.mpr c8))⟩
    · refine lv_iconst (v := 1) hx hb d_X_isItem_11 (by decide) ?_
      refine lv_goto (tgt := 16) hx hb d_X_isItem_12 (by decide) ?_
      exact mm_zret (v := 1) E hr hlk eQ hZ rfl d_X_isItem_16 ⟨_, rfl, rfl, b32_t ⟨Int32.not_lt.mp c1, Int32.not_le.mp c8⟩⟩
set_option maxHeartbeats 4000000 in
set_option maxRecDepth 100000 in
theorem c_X_isPlace (l : Launch) (g : mm_G) (M : mm_M) (x : Int32) : Ci l g y_X_isPlace b_X_isPlace 1 .boolean (rk 0 0 0 0) M [.int x] (fun r M' => M' = M ∧ r = b32 (0 ≤ x ∧ x < 50)) := by
  refine mm_enter (by decide) (Nat.le_of_ble_eq_true rfl) (fun pG eV s m args below meth cdx ls Q E hml hr hlk hnm hZ hl eQ => ?_)
  have hx := E.1
  have hb := E.2.1
  have hl : lv_has ls 1 [(0, .int x)] := hl
  refine lv_iload_n hx hb d_X_isPlace_0 rfl (lv_at hl 0 rfl) ?_
  refine lv_if_lt (tgt := 14) hx hb d_X_isPlace_1 (by decide) (fun c1 => ?_) (fun c1 => ?_)
  · refine lv_iconst (v := 0) hx hb d_X_isPlace_14 (by decide) ?_
    exact mm_zret (v := 0) E hr hlk eQ hZ rfl d_X_isPlace_15 ⟨_, rfl, rfl, b32_f (fun q => absurd q.1 (Int32.not_le.mpr c1))⟩
  · refine lv_iload_n hx hb d_X_isPlace_4 rfl (lv_at hl 0 rfl) ?_
    refine lv_bipush (v := 50) hx hb d_X_isPlace_5 (by decide) ?_
    refine lv_icmp_ge (tgt := 14) hx hb d_X_isPlace_7 (by decide) (fun c7 => ?_) (fun c7 => ?_)
    · refine lv_iconst (v := 0) hx hb d_X_isPlace_14 (by decide) ?_
      exact mm_zret (v := 0) E hr hlk eQ hZ rfl d_X_isPlace_15 ⟨_, rfl, rfl, b32_f (fun q => absurd q.2 (Int32.not_lt.mpr c7))⟩
    · refine lv_iconst (v := 1) hx hb d_X_isPlace_10 (by decide) ?_
      refine lv_goto (tgt := 15) hx hb d_X_isPlace_11 (by decide) ?_
      exact mm_zret (v := 1) E hr hlk eQ hZ rfl d_X_isPlace_15 ⟨_, rfl, rfl, b32_t ⟨Int32.not_lt.mp c1, Int32.not_le.mp c7⟩⟩
set_option maxHeartbeats 4000000 in
set_option maxRecDepth 100000 in
theorem c_X_isService (l : Launch) (g : mm_G) (M : mm_M) (x : Int32) : Ci l g y_X_isService b_X_isService 1 .boolean (rk 0 0 0 0) M [.int x] (fun r M' => M' = M ∧ r = b32 (0 ≤ x ∧ x < 5)) := by
  refine mm_enter (by decide) (Nat.le_of_ble_eq_true rfl) (fun pG eV s m args below meth cdx ls Q E hml hr hlk hnm hZ hl eQ => ?_)
  have hx := E.1
  have hb := E.2.1
  have hl : lv_has ls 1 [(0, .int x)] := hl
  refine lv_iload_n hx hb d_X_isService_0 rfl (lv_at hl 0 rfl) ?_
  refine lv_if_lt (tgt := 13) hx hb d_X_isService_1 (by decide) (fun c1 => ?_) (fun c1 => ?_)
  · refine lv_iconst (v := 0) hx hb d_X_isService_13 (by decide) ?_
    exact mm_zret (v := 0) E hr hlk eQ hZ rfl d_X_isService_14 ⟨_, rfl, rfl, b32_f (fun q => absurd q.1 (Int32.not_le.mpr c1))⟩
  · refine lv_iload_n hx hb d_X_isService_4 rfl (lv_at hl 0 rfl) ?_
    refine lv_iconst (v := 5) hx hb d_X_isService_5 (by decide) ?_
    refine lv_icmp_ge (tgt := 13) hx hb d_X_isService_6 (by decide) (fun c6 => ?_) (fun c6 => ?_)
    · refine lv_iconst (v := 0) hx hb d_X_isService_13 (by decide) ?_
      exact mm_zret (v := 0) E hr hlk eQ hZ rfl d_X_isService_14 ⟨_, rfl, rfl, b32_f (fun q => absurd q.2 (Int32.not_lt.mpr c6))⟩
    · refine lv_iconst (v := 1) hx hb d_X_isService_9 (by decide) ?_
      refine lv_goto (tgt := 14) hx hb d_X_isService_10 (by decide) ?_
      exact mm_zret (v := 1) E hr hlk eQ hZ rfl d_X_isService_14 ⟨_, rfl, rfl, b32_t ⟨Int32.not_lt.mp c1, Int32.not_le.mp c6⟩⟩
