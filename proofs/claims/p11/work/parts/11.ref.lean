/-! THE REFERENCE's STATE: its object (tag 20) and its arrays (field k: tag 21 + k). I: the arrays of ints and booleans by fields, L: those of longs, S: the int fields, ck: the clock -/
def rI : Nat → Bool := fun k => match k with
  | 2 => true
  | 3 => true
  | 4 => true
  | 6 => true
  | 7 => true
  | 10 => true
  | 11 => true
  | 13 => true
  | 14 => true
  | 15 => true
  | 20 => true
  | 21 => true
  | 22 => true
  | 23 => true
  | 25 => true
  | _ => false
def rL : Nat → Bool := fun k => match k with
  | 5 => true
  | 8 => true
  | 9 => true
  | 12 => true
  | 19 => true
  | _ => false
def rT : Nat → Nat := fun k => match k with
  | 6 => 2
  | 13 => 2
  | 14 => 2
  | 15 => 2
  | _ => 0
def rN : Nat → Nat := fun k => match k with
  | 2 => 41
  | 3 => 41
  | 4 => 41
  | 5 => 41
  | 6 => 41
  | 7 => 200
  | 8 => 200
  | 9 => 200
  | 10 => 200
  | 11 => 200
  | 12 => 200
  | 13 => 200
  | 14 => 200
  | 15 => 20001
  | 19 => 2000
  | 20 => 50
  | 21 => 50
  | 22 => 5
  | 23 => 21000
  | 25 => 40
  | _ => 0
abbrev rf_fs (ad : Nat → Nat) (S : Nat → Int32) (ck : Int64) : List Value := [.int (S 0), .int (S 1), .ref (ad 2), .ref (ad 3), .ref (ad 4), .ref (ad 5), .ref (ad 6), .ref (ad 7), .ref (ad 8), .ref (ad 9), .ref (ad 10), .ref (ad 11), .ref (ad 12), .ref (ad 13), .ref (ad 14), .ref (ad 15), .int (S 16), .long ck, .int (S 18), .ref (ad 19), .ref (ad 20), .ref (ad 21), .ref (ad 22), .ref (ad 23), .int (S 24), .ref (ad 25)]
def up2 {α : Type} (I : Nat → Nat → α) (k j : Nat) (x : α) : Nat → Nat → α := va_up I k (va_up (I k) j x)
def Rs (g : mm_G) (M : mm_M) (q : Nat) (ad : Nat → Nat) (I : Nat → Nat → Int32) (L : Nat → Nat → Int64) (S : Nat → Int32) (ck : Int64) : Prop :=
  M q = some (ob 20 9 (rf_fs ad S ck)) ∧ (∀ k, rI k = true → M (ad k) = some (21 + k, .inl (g.2.2 (rT k), rN k, .inl (I k)))) ∧ (∀ k, rL k = true → M (ad k) = some (21 + k, .inl (g.2.2 1, rN k, .inr (.inl (L k)))))
/-- the reference's state, in a memory that came from M0 by writing the reference's cells alone -/
def Rq (g : mm_G) (M0 M : mm_M) (q : Nat) (ad : Nat → Nat) (I : Nat → Nat → Int32) (L : Nat → Nat → Int64) (S : Nat → Int32) (ck : Int64) : Prop := Rs g M q ad I L S ck ∧ ∀ t, (t < 20 ∨ 47 ≤ t) → mm_same t M0 M
theorem Rs.q {g : mm_G} {M : mm_M} {q : Nat} {ad : Nat → Nat} {I : Nat → Nat → Int32} {L : Nat → Nat → Int64} {S : Nat → Int32} {ck : Int64} (h : Rs g M q ad I L S ck) : Rq g M M q ad I L S ck := ⟨h, fun _ _ => mm_same.rf⟩
/-- other cells than the reference's have changed: its state stays -/
theorem Rs.kept {g : mm_G} {M M' : mm_M} {q : Nat} {ad : Nat → Nat} {I : Nat → Nat → Int32} {L : Nat → Nat → Int64} {S : Nat → Int32} {ck : Int64} (h : Rs g M q ad I L S ck) (hs : ∀ t, 20 ≤ t → t < 47 → mm_same t M M') : Rs g M' q ad I L S ck := by
  refine ⟨hs 20 (by omega) (by omega) _ _ h.1, fun k hk => ?_, fun k hk => ?_⟩
  · have : k < 26 := by
      rcases Nat.lt_or_ge k 26 with q | q
      · exact q
      · exfalso; revert hk; unfold rI; split <;> first | omega | simp
    exact hs (21 + k) (by omega) (by omega) _ _ (h.2.1 k hk)
  · have : k < 26 := by
      rcases Nat.lt_or_ge k 26 with q | q
      · exact q
      · exfalso; revert hk; unfold rL; split <;> first | omega | simp
    exact hs (21 + k) (by omega) (by omega) _ _ (h.2.2 k hk)
section RR
variable {p : Program} {l : Launch} {e : Env} {R : Room} {s : State} {m : MethodId} {args : Array Value} {below : List Frame} {meth : Method} {c : Code} {H : Heap} {locs : List Loc} {cells slots : Nat} {Q : State → Prop} {cc : ByteArray} {pc : Nat} {ls : Array Slot} {rest st0 : List Value} {g : mm_G} {M M0 : mm_M} {own : String} {q : Nat} {ad : Nat → Nat} {I : Nat → Nat → Int32} {L : Nat → Nat → Int64} {S : Nat → Int32} {ck : Int64}
theorem rI_len {k : Nat} : rN k < 2 ^ 31 := by unfold rN; split <;> decide
theorem Rq.puti {k : Nat} (hk : rI k = true) (h : Rq g M0 M q ad I L S ck) (f : Nat → Int32) : Rq g M0 (mm_up M (ad k) (21 + k, .inl (g.2.2 (rT k), rN k, .inl f))) q ad (va_up I k f) L S ck := by
  have hk0 := h.1.2.1 k hk
  refine ⟨⟨(mm_ne _ _ (mm_tag h.1.1 hk0 (by omega))).trans h.1.1, fun j hj => ?_, fun j hj => ?_⟩, fun t ht => (h.2 t ht).tr (mm_same.up hk0 (by
      have : k < 26 := by
        rcases Nat.lt_or_ge k 26 with q | q
        · exact q
        · exfalso; revert hk; unfold rI; split <;> first | omega | simp
      omega) _)⟩
  · by_cases e : j = k
    · subst e
      rw [va_up_self]
      exact mm_self _ _ _
    · rw [va_up_ne _ _ e]
      exact (mm_ne _ _ (mm_tag (h.1.2.1 j hj) hk0 (by omega))).trans (h.1.2.1 j hj)
  · have e : j ≠ k := fun x => by subst x; revert hk hj; unfold rI rL; split <;> simp
    exact (mm_ne _ _ (mm_tag (h.1.2.2 j hj) hk0 (by omega))).trans (h.1.2.2 j hj)
theorem Rq.putl {k : Nat} (hk : rL k = true) (h : Rq g M0 M q ad I L S ck) (f : Nat → Int64) : Rq g M0 (mm_up M (ad k) (21 + k, .inl (g.2.2 1, rN k, .inr (.inl f)))) q ad I (va_up L k f) S ck := by
  have hk0 := h.1.2.2 k hk
  refine ⟨⟨(mm_ne _ _ (mm_tag h.1.1 hk0 (by omega))).trans h.1.1, fun j hj => ?_, fun j hj => ?_⟩, fun t ht => (h.2 t ht).tr (mm_same.up hk0 (by
      have : k < 26 := by
        rcases Nat.lt_or_ge k 26 with q | q
        · exact q
        · exfalso; revert hk; unfold rL; split <;> first | omega | simp
      omega) _)⟩
  · have e : j ≠ k := fun x => by subst x; revert hk hj; unfold rI rL; split <;> simp
    exact (mm_ne _ _ (mm_tag (h.1.2.1 j hj) hk0 (by omega))).trans (h.1.2.1 j hj)
  · by_cases e : j = k
    · subst e
      rw [va_up_self]
      exact mm_self _ _ _
    · rw [va_up_ne _ _ e]
      exact (mm_ne _ _ (mm_tag (h.1.2.2 j hj) hk0 (by omega))).trans (h.1.2.2 j hj)
theorem Rq.putf (h : Rq g M0 M q ad I L S ck) (S' : Nat → Int32) (ck' : Int64) : Rq g M0 (mm_up M q (ob 20 9 (rf_fs ad S' ck'))) q ad I L S' ck' :=
  ⟨⟨mm_self _ _ _, fun j hj => (mm_ne _ _ (mm_tag (h.1.2.1 j hj) h.1.1 (by omega))).trans (h.1.2.1 j hj), fun j hj => (mm_ne _ _ (mm_tag (h.1.2.2 j hj) h.1.1 (by omega))).trans (h.1.2.2 j hj)⟩, fun t ht => (h.2 t ht).tr (mm_same.up h.1.1 (by omega) _)⟩
theorem rr_iald (k : Nat) (hk : rI k = true) (hT : rT k = 0) (E : mm_C g p s m args c cc own) (hZ : mm_S g s M H locs) (hR : Rq g M0 M q ad I L S ck) {i : Int32} {j : Nat} (hi : i = nI j) (hj : j < rN k) (hdg : decode cc pc = .ok (.iaload, 1))
    (kk : W p l e R s m args below meth c H locs cells slots Q (F0 m (pc + 1) ls (.int (I k j) :: rest))) : W p l e R s m args below meth c H locs cells slots Q (F0 m pc ls (.int i :: .ref (ad k) :: rest)) :=
  mm_iald (t0 := 0) E hZ (hR.1.2.1 k hk) (by rw [hT]; rfl) hi hj rI_len hdg kk
theorem rr_zald (k : Nat) (hk : rI k = true) (hT : rT k = 2) (E : mm_C g p s m args c cc own) (hZ : mm_S g s M H locs) (hR : Rq g M0 M q ad I L S ck) {i : Int32} {j : Nat} (hi : i = nI j) (hj : j < rN k) (hdg : decode cc pc = .ok (.baload, 1))
    (kk : W p l e R s m args below meth c H locs cells slots Q (F0 m (pc + 1) ls (.int (I k j) :: rest))) : W p l e R s m args below meth c H locs cells slots Q (F0 m pc ls (.int i :: .ref (ad k) :: rest)) :=
  mm_zald (t0 := 2) E hZ (hR.1.2.1 k hk) (by rw [hT]; rfl) hi hj rI_len hdg kk
theorem rr_lald (k : Nat) (hk : rL k = true) (E : mm_C g p s m args c cc own) (hZ : mm_S g s M H locs) (hR : Rq g M0 M q ad I L S ck) {i : Int32} {j : Nat} (hi : i = nI j) (hj : j < rN k) (hdg : decode cc pc = .ok (.laload, 1))
    (kk : W p l e R s m args below meth c H locs cells slots Q (F0 m (pc + 1) ls (.long (L k j) :: rest))) : W p l e R s m args below meth c H locs cells slots Q (F0 m pc ls (.int i :: .ref (ad k) :: rest)) :=
  mm_lald (t0 := 1) E hZ (hR.1.2.2 k hk) rfl hi hj rI_len hdg kk
theorem rr_iast (k : Nat) (hk : rI k = true) (hT : rT k = 0) (E : mm_C g p s m args c cc own) (hZ : mm_S g s M H locs) (hR : Rq g M0 M q ad I L S ck) {i x : Int32} {j : Nat} (hi : i = nI j) (hj : j < rN k) (hdg : decode cc pc = .ok (.iastore, 1))
    (kk : ∀ (M1 : mm_M) (H1 : Heap) (locs1 : List Loc), mm_S g s M1 H1 locs1 → Rq g M0 M1 q ad (up2 I k j x) L S ck → W p l e R s m args below meth c H1 locs1 cells slots Q (F0 m (pc + 1) ls rest)) : W p l e R s m args below meth c H locs cells slots Q (F0 m pc ls (.int x :: .int i :: .ref (ad k) :: rest)) :=
  mm_iast (t0 := 0) E hZ (hR.1.2.1 k hk) (by rw [hT]; rfl) (by omega) hi hj rI_len hdg (fun H1 locs1 hZ1 => kk _ H1 locs1 hZ1 (hR.puti hk _))
theorem rr_zast (k : Nat) (hk : rI k = true) (hT : rT k = 2) (E : mm_C g p s m args c cc own) (hZ : mm_S g s M H locs) (hR : Rq g M0 M q ad I L S ck) {i x : Int32} (hx : bo x) {j : Nat} (hi : i = nI j) (hj : j < rN k) (hdg : decode cc pc = .ok (.bastore, 1))
    (kk : ∀ (M1 : mm_M) (H1 : Heap) (locs1 : List Loc), mm_S g s M1 H1 locs1 → Rq g M0 M1 q ad (up2 I k j x) L S ck → W p l e R s m args below meth c H1 locs1 cells slots Q (F0 m (pc + 1) ls rest)) : W p l e R s m args below meth c H locs cells slots Q (F0 m pc ls (.int x :: .int i :: .ref (ad k) :: rest)) :=
  mm_zast (t0 := 2) E hZ (hR.1.2.1 k hk) (by rw [hT]; rfl) (by omega) (bo_n hx) hi hj rI_len hdg (fun H1 locs1 hZ1 => kk _ H1 locs1 hZ1 (hR.puti hk _))
theorem rr_last (k : Nat) (hk : rL k = true) (E : mm_C g p s m args c cc own) (hZ : mm_S g s M H locs) (hR : Rq g M0 M q ad I L S ck) {i : Int32} {x : Int64} {j : Nat} (hi : i = nI j) (hj : j < rN k) (hdg : decode cc pc = .ok (.lastore, 1))
    (kk : ∀ (M1 : mm_M) (H1 : Heap) (locs1 : List Loc), mm_S g s M1 H1 locs1 → Rq g M0 M1 q ad I (up2 L k j x) S ck → W p l e R s m args below meth c H1 locs1 cells slots Q (F0 m (pc + 1) ls rest)) : W p l e R s m args below meth c H locs cells slots Q (F0 m pc ls (.long x :: .int i :: .ref (ad k) :: rest)) :=
  mm_last (t0 := 1) E hZ (hR.1.2.2 k hk) rfl (by omega) hi hj rI_len hdg (fun H1 locs1 hZ1 => kk _ H1 locs1 hZ1 (hR.putl hk _))
theorem rr_put0 (E : mm_C g p s m args c cc own) (hZ : mm_S g s M H locs) (hR : Rq g M0 M q ad I L S ck) {index : Nat} (hf : mm_fl own index F_Mod 0) {x : Int32} (hdg : decode cc pc = .ok (.putfield index, 3))
    (kk : ∀ (M1 : mm_M) (H1 : Heap) (locs1 : List Loc), mm_S g s M1 H1 locs1 → Rq g M0 M1 q ad I L (va_up S 0 x) ck → W p l e R s m args below meth c H1 locs1 cells slots Q (F0 m (pc + 3) ls rest)) : W p l e R s m args below meth c H locs cells slots Q (F0 m pc ls (.int x :: .ref q :: rest)) :=
  mm_put E hZ cl_Mod hf (by decide) rfl hR.1.1 (by decide) rfl rfl (Nat.le_of_ble_eq_true rfl) hdg (fun H1 locs1 hZ1 => kk _ H1 locs1 hZ1 (hR.putf (va_up S 0 x) ck))
theorem rr_put1 (E : mm_C g p s m args c cc own) (hZ : mm_S g s M H locs) (hR : Rq g M0 M q ad I L S ck) {index : Nat} (hf : mm_fl own index F_Mod 1) {x : Int32} (hdg : decode cc pc = .ok (.putfield index, 3))
    (kk : ∀ (M1 : mm_M) (H1 : Heap) (locs1 : List Loc), mm_S g s M1 H1 locs1 → Rq g M0 M1 q ad I L (va_up S 1 x) ck → W p l e R s m args below meth c H1 locs1 cells slots Q (F0 m (pc + 3) ls rest)) : W p l e R s m args below meth c H locs cells slots Q (F0 m pc ls (.int x :: .ref q :: rest)) :=
  mm_put E hZ cl_Mod hf (by decide) rfl hR.1.1 (by decide) rfl rfl (Nat.le_of_ble_eq_true rfl) hdg (fun H1 locs1 hZ1 => kk _ H1 locs1 hZ1 (hR.putf (va_up S 1 x) ck))
theorem rr_put16 (E : mm_C g p s m args c cc own) (hZ : mm_S g s M H locs) (hR : Rq g M0 M q ad I L S ck) {index : Nat} (hf : mm_fl own index F_Mod 16) {x : Int32} (hdg : decode cc pc = .ok (.putfield index, 3))
    (kk : ∀ (M1 : mm_M) (H1 : Heap) (locs1 : List Loc), mm_S g s M1 H1 locs1 → Rq g M0 M1 q ad I L (va_up S 16 x) ck → W p l e R s m args below meth c H1 locs1 cells slots Q (F0 m (pc + 3) ls rest)) : W p l e R s m args below meth c H locs cells slots Q (F0 m pc ls (.int x :: .ref q :: rest)) :=
  mm_put E hZ cl_Mod hf (by decide) rfl hR.1.1 (by decide) rfl rfl (Nat.le_of_ble_eq_true rfl) hdg (fun H1 locs1 hZ1 => kk _ H1 locs1 hZ1 (hR.putf (va_up S 16 x) ck))
theorem rr_put18 (E : mm_C g p s m args c cc own) (hZ : mm_S g s M H locs) (hR : Rq g M0 M q ad I L S ck) {index : Nat} (hf : mm_fl own index F_Mod 18) {x : Int32} (hdg : decode cc pc = .ok (.putfield index, 3))
    (kk : ∀ (M1 : mm_M) (H1 : Heap) (locs1 : List Loc), mm_S g s M1 H1 locs1 → Rq g M0 M1 q ad I L (va_up S 18 x) ck → W p l e R s m args below meth c H1 locs1 cells slots Q (F0 m (pc + 3) ls rest)) : W p l e R s m args below meth c H locs cells slots Q (F0 m pc ls (.int x :: .ref q :: rest)) :=
  mm_put E hZ cl_Mod hf (by decide) rfl hR.1.1 (by decide) rfl rfl (Nat.le_of_ble_eq_true rfl) hdg (fun H1 locs1 hZ1 => kk _ H1 locs1 hZ1 (hR.putf (va_up S 18 x) ck))
theorem rr_put24 (E : mm_C g p s m args c cc own) (hZ : mm_S g s M H locs) (hR : Rq g M0 M q ad I L S ck) {index : Nat} (hf : mm_fl own index F_Mod 24) {x : Int32} (hdg : decode cc pc = .ok (.putfield index, 3))
    (kk : ∀ (M1 : mm_M) (H1 : Heap) (locs1 : List Loc), mm_S g s M1 H1 locs1 → Rq g M0 M1 q ad I L (va_up S 24 x) ck → W p l e R s m args below meth c H1 locs1 cells slots Q (F0 m (pc + 3) ls rest)) : W p l e R s m args below meth c H locs cells slots Q (F0 m pc ls (.int x :: .ref q :: rest)) :=
  mm_put E hZ cl_Mod hf (by decide) rfl hR.1.1 (by decide) rfl rfl (Nat.le_of_ble_eq_true rfl) hdg (fun H1 locs1 hZ1 => kk _ H1 locs1 hZ1 (hR.putf (va_up S 24 x) ck))
theorem rr_put17 (E : mm_C g p s m args c cc own) (hZ : mm_S g s M H locs) (hR : Rq g M0 M q ad I L S ck) {index : Nat} (hf : mm_fl own index F_Mod 17) {x : Int64} (hdg : decode cc pc = .ok (.putfield index, 3))
    (kk : ∀ (M1 : mm_M) (H1 : Heap) (locs1 : List Loc), mm_S g s M1 H1 locs1 → Rq g M0 M1 q ad I L S x → W p l e R s m args below meth c H1 locs1 cells slots Q (F0 m (pc + 3) ls rest)) : W p l e R s m args below meth c H locs cells slots Q (F0 m pc ls (.long x :: .ref q :: rest)) :=
  mm_put E hZ cl_Mod hf (by decide) rfl hR.1.1 (by decide) rfl rfl (Nat.le_of_ble_eq_true rfl) hdg (fun H1 locs1 hZ1 => kk _ H1 locs1 hZ1 (hR.putf S x))
end RR
