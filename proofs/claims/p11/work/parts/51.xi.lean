/-! THE CLASS's STATE: addresses a (0 the object, 1 its rows, 2 all, 3 failed, 4 holidays, 5 their array, 6 alarms, 7 their list, 8 counts, 9 begun, 10 late, 11 deliveries, 12 days, 13 services, 14 items) -/
/-- ArrayList's room by level, and all slots made up to a level -/
def cp : Nat → Nat
  | 0 => 0
  | k + 1 => alN (cp k)
def cs : Nat → Nat
  | 0 => 0
  | k + 1 => cs k + alN (cp k)
theorem cp_ge : ∀ k : Nat, 0 < k → 10 ≤ cp k
  | 0, h => absurd h (by omega)
  | 1, _ => Nat.le_refl _
  | k + 2, _ => by
    have h := cp_ge (k + 1) (by omega)
    show 10 ≤ alN (cp (k + 1))
    rw [alN_pos h]; omega
theorem cp_mono (k : Nat) : cp k < cp (k + 1) := by
  show cp k < alN (cp k)
  unfold alN
  split
  · omega
  · rename_i h
    rcases Nat.eq_zero_or_pos k with z | z
    · subst z; exact absurd rfl h
    · have := cp_ge k z; omega
theorem cp_le {k j : Nat} (h : k ≤ j) : cp k ≤ cp j := by
  induction j with
  | zero => rw [show k = 0 by omega]; exact Nat.le_refl _
  | succ j ih =>
    rcases Nat.lt_or_ge k (j + 1) with z | z
    · exact Nat.le_trans (ih (by omega)) (Nat.le_of_lt (cp_mono j))
    · rw [show k = j + 1 by omega]; exact Nat.le_refl _
theorem cs_le {k j : Nat} (h : k ≤ j) : cs k ≤ cs j := by
  induction j with
  | zero => rw [show k = 0 by omega]; exact Nat.le_refl _
  | succ j ih =>
    rcases Nat.lt_or_ge k (j + 1) with z | z
    · exact Nat.le_trans (ih (by omega)) (Nat.le_add_right _ _)
    · rw [show k = j + 1 by omega]; exact Nat.le_refl _
theorem cp_11 : cp 11 = 549 := by decide
theorem cp_5 : cp 5 = 49 := by decide
theorem cp_lt {k j n : Nat} (h : cp k < n) (hj : n ≤ cp j) : k < j := by
  rcases Nat.lt_or_ge k j with z | z
  · exact z
  · have := cp_le z; omega
/-- an add to a list of c at the level k: the level behind it -/
def lvl (c k : Nat) : Nat := if c < cp k then k else k + 1
theorem lvl_M (c k : Nat) (h : c ≤ cp k) : alM c (cp k) = cp (lvl c k) ∧ alC c (cp k) = lvl c k - k ∧ alS c (cp k) = cs (lvl c k) - cs k ∧ k ≤ lvl c k ∧ lvl c k ≤ k + 1 := by
  unfold lvl alM alC alS
  by_cases z : c < cp k
  · rw [if_pos z, if_pos z, if_pos z, if_pos z]
    exact ⟨rfl, by omega, by omega, Nat.le_refl _, by omega⟩
  · rw [if_neg z, if_neg z, if_neg z, if_neg z]
    exact ⟨rfl, by omega, by show alN (cp k) = cs k + alN (cp k) - cs k; omega, by omega, Nat.le_refl _⟩
theorem lvl_le {c k j n : Nat} (hk : k ≤ j) (hc : c < n) (hn : n ≤ cp j) : lvl c k ≤ j := by
  unfold lvl
  by_cases z : c < cp k
  · rw [if_pos z]; exact hk
  · rw [if_neg z]
    have : k < j := cp_lt (k := k) (j := j) (n := n) (by omega) hn
    omega
def Xi (g : mm_G) (M : mm_M) (a : Nat → Nat) (ad at0 fa : Nat → Nat) (kr kf kt c cf ct ch cd : Nat) (R : Nat → rowS) (fr : Nat → Nat) (fh : Nat → Int64) (F : Nat → Nat → Int32) (fb fl fd fs : Nat → Int32) (v : Nat → itS) (ck : Int64) : Prop :=
  M (a 0) = some (xob (a 1) (a 4) (a 6) (a 8) (a 11) (a 14) ck) ∧ Rl g M (a 1) (a 2) (a 3) c (cp kr) cf (cp kf) ad (fun i => ad (fr i)) ∧ (∀ i, i < c → M (ad i) = some (rowE (R i))) ∧ (∀ i j, i < c → j < c → ad i = ad j → i = j) ∧ (∀ i, i < cf → fr i < c) ∧ Hl g M (a 4) (a 5) ch fh ∧ Tl g M (a 6) (a 7) ct (cp kt) at0 F ∧ Cn g M (a 8) (a 9) (a 10) fb fl ∧ Dl g M (a 11) (a 12) (a 13) cd fd fs ∧ It g M (a 14) fa v
section XI
variable {g : mm_G} {M M' : mm_M} {a : Nat → Nat} {ad at0 fa : Nat → Nat} {kr kf kt c cf ct ch cd : Nat} {R : Nat → rowS} {fr : Nat → Nat} {fh : Nat → Int64} {F : Nat → Nat → Int32} {fb fl fd fs : Nat → Int32} {v : Nat → itS} {ck : Int64}
theorem Xi.x (h : Xi g M a ad at0 fa kr kf kt c cf ct ch cd R fr fh F fb fl fd fs v ck) : M (a 0) = some (xob (a 1) (a 4) (a 6) (a 8) (a 11) (a 14) ck) := h.1
theorem Xi.rl (h : Xi g M a ad at0 fa kr kf kt c cf ct ch cd R fr fh F fb fl fd fs v ck) : Rl g M (a 1) (a 2) (a 3) c (cp kr) cf (cp kf) ad (fun i => ad (fr i)) := h.2.1
theorem Xi.row (h : Xi g M a ad at0 fa kr kf kt c cf ct ch cd R fr fh F fb fl fd fs v ck) : ∀ i, i < c → M (ad i) = some (rowE (R i)) := h.2.2.1
theorem Xi.inj (h : Xi g M a ad at0 fa kr kf kt c cf ct ch cd R fr fh F fb fl fd fs v ck) : ∀ i j, i < c → j < c → ad i = ad j → i = j := h.2.2.2.1
theorem Xi.fri (h : Xi g M a ad at0 fa kr kf kt c cf ct ch cd R fr fh F fb fl fd fs v ck) : ∀ i, i < cf → fr i < c := h.2.2.2.2.1
theorem Xi.hl (h : Xi g M a ad at0 fa kr kf kt c cf ct ch cd R fr fh F fb fl fd fs v ck) : Hl g M (a 4) (a 5) ch fh := h.2.2.2.2.2.1
theorem Xi.tl (h : Xi g M a ad at0 fa kr kf kt c cf ct ch cd R fr fh F fb fl fd fs v ck) : Tl g M (a 6) (a 7) ct (cp kt) at0 F := h.2.2.2.2.2.2.1
theorem Xi.cn (h : Xi g M a ad at0 fa kr kf kt c cf ct ch cd R fr fh F fb fl fd fs v ck) : Cn g M (a 8) (a 9) (a 10) fb fl := h.2.2.2.2.2.2.2.1
theorem Xi.dl (h : Xi g M a ad at0 fa kr kf kt c cf ct ch cd R fr fh F fb fl fd fs v ck) : Dl g M (a 11) (a 12) (a 13) cd fd fs := h.2.2.2.2.2.2.2.2.1
theorem Xi.it (h : Xi g M a ad at0 fa kr kf kt c cf ct ch cd R fr fh F fb fl fd fs v ck) : It g M (a 14) fa v := h.2.2.2.2.2.2.2.2.2
theorem Xi.item (h : Xi g M a ad at0 fa kr kf kt c cf ct ch cd R fr fh F fb fl fd fs v ck) {j : Nat} (hj : j < 200) : M (fa j) = some (itE (v j)) := h.it.2.1 j hj
theorem Xi.ex (h : Xi g M a ad at0 fa kr kf kt c cf ct ch cd R fr fh F fb fl fd fs v ck) : ∀ i, i < c → ∃ nu st pl sv wi fl hf, M (ad i) = some (rowc nu st pl sv wi fl hf) := fun i hi => ⟨_, _, _, _, _, _, _, h.row i hi⟩
theorem Xi.fex (h : Xi g M a ad at0 fa kr kf kt c cf ct ch cd R fr fh F fb fl fd fs v ck) : ∀ i, i < cf → ∃ nu st pl sv wi fl hf, M (ad (fr i)) = some (rowc nu st pl sv wi fl hf) := fun i hi => h.ex _ (h.fri i hi)
/-- nothing of the class was touched -/
theorem Xi.kept (h : Xi g M a ad at0 fa kr kf kt c cf ct ch cd R fr fh F fb fl fd fs v ck) (hs : ∀ u, 0 < u → u < 19 → mm_same u M M') : Xi g M' a ad at0 fa kr kf kt c cf ct ch cd R fr fh F fb fl fd fs v ck :=
  ⟨hs 1 (by decide) (by decide) _ _ h.x, h.rl.kept (fun u hu => hs u (by rcases hu with rfl | rfl | rfl <;> decide) (by rcases hu with rfl | rfl | rfl <;> decide)), fun i hi => hs 10 (by decide) (by decide) _ _ (h.row i hi), h.inj, h.fri, h.hl.kept (fun u hu => hs u (by rcases hu with rfl | rfl <;> decide) (by rcases hu with rfl | rfl <;> decide)), h.tl.kept (fun u hu => hs u (by rcases hu with rfl | rfl | rfl <;> decide) (by rcases hu with rfl | rfl | rfl <;> decide)), h.cn.kept (fun u hu => hs u (by rcases hu with rfl | rfl | rfl <;> decide) (by rcases hu with rfl | rfl | rfl <;> decide)), h.dl.kept (fun u hu => hs u (by rcases hu with rfl | rfl | rfl <;> decide) (by rcases hu with rfl | rfl | rfl <;> decide)), h.it.kept (fun u hu => hs u (by rcases hu with rfl | rfl <;> decide) (by rcases hu with rfl | rfl <;> decide))⟩
theorem It.up (h : It g M (a 14) fa v) {j : Nat} (hj : j < 200) (w : itS) : It g (mm_up M (fa j) (itE w)) (a 14) fa (va_up v j w) := by
  obtain ⟨⟨f, h1, h2⟩, h3, h4⟩ := h
  refine ⟨⟨f, (mm_ne _ _ (mm_tag h1 (h3 j hj) (by decide))).trans h1, h2⟩, fun i hi => ?_, h4⟩
  by_cases z : i = j
  · subst z; rw [va_up_self]; exact mm_self _ _ _
  · rw [va_up_ne _ _ z]; exact (mm_ne _ _ (fun y => z (h4 i j hi hj y))).trans (h3 i hi)
theorem Xi.upI (h : Xi g M a ad at0 fa kr kf kt c cf ct ch cd R fr fh F fb fl fd fs v ck) {j : Nat} (hj : j < 200) (w : itS) : Xi g (mm_up M (fa j) (itE w)) a ad at0 fa kr kf kt c cf ct ch cd R fr fh F fb fl fd fs (va_up v j w) ck := by
  have hs : ∀ u, u ≠ 7 → mm_same u M (mm_up M (fa j) (itE w)) := fun u hu => mm_same.up (h.item hj) hu _
  exact ⟨hs 1 (by decide) _ _ h.x, h.rl.kept (fun u hu => hs u (by rcases hu with rfl | rfl | rfl <;> decide)), fun i hi => hs 10 (by decide) _ _ (h.row i hi), h.inj, h.fri, h.hl.kept (fun u hu => hs u (by rcases hu with rfl | rfl <;> decide)), h.tl.kept (fun u hu => hs u (by rcases hu with rfl | rfl | rfl <;> decide)), h.cn.kept (fun u hu => hs u (by rcases hu with rfl | rfl | rfl <;> decide)), h.dl.kept (fun u hu => hs u (by rcases hu with rfl | rfl | rfl <;> decide)), h.it.up hj w⟩
theorem Xi.upB (h : Xi g M a ad at0 fa kr kf kt c cf ct ch cd R fr fh F fb fl fd fs v ck) {fb2 : Nat → Int32} (hc : Cn g M' (a 8) (a 9) (a 10) fb2 fl) (hs : ∀ u, u ≠ 13 → mm_same u M M') : Xi g M' a ad at0 fa kr kf kt c cf ct ch cd R fr fh F fb2 fl fd fs v ck := ⟨hs 1 (by decide) _ _ h.x, h.rl.kept (fun u hu => hs u (by rcases hu with rfl | rfl | rfl <;> decide)), fun i hi => hs 10 (by decide) _ _ (h.row i hi), h.inj, h.fri, h.hl.kept (fun u hu => hs u (by rcases hu with rfl | rfl <;> decide)), h.tl.kept (fun u hu => hs u (by rcases hu with rfl | rfl | rfl <;> decide)), hc, h.dl.kept (fun u hu => hs u (by rcases hu with rfl | rfl | rfl <;> decide)), h.it.kept (fun u hu => hs u (by rcases hu with rfl | rfl <;> decide))⟩
theorem Xi.upL (h : Xi g M a ad at0 fa kr kf kt c cf ct ch cd R fr fh F fb fl fd fs v ck) {fl2 : Nat → Int32} (hc : Cn g M' (a 8) (a 9) (a 10) fb fl2) (hs : ∀ u, u ≠ 14 → mm_same u M M') : Xi g M' a ad at0 fa kr kf kt c cf ct ch cd R fr fh F fb fl2 fd fs v ck := ⟨hs 1 (by decide) _ _ h.x, h.rl.kept (fun u hu => hs u (by rcases hu with rfl | rfl | rfl <;> decide)), fun i hi => hs 10 (by decide) _ _ (h.row i hi), h.inj, h.fri, h.hl.kept (fun u hu => hs u (by rcases hu with rfl | rfl <;> decide)), h.tl.kept (fun u hu => hs u (by rcases hu with rfl | rfl | rfl <;> decide)), hc, h.dl.kept (fun u hu => hs u (by rcases hu with rfl | rfl | rfl <;> decide)), h.it.kept (fun u hu => hs u (by rcases hu with rfl | rfl <;> decide))⟩
theorem Xi.upD (h : Xi g M a ad at0 fa kr kf kt c cf ct ch cd R fr fh F fb fl fd fs v ck) {cd2 : Nat} {fd2 fs2 : Nat → Int32} (hd : Dl g M' (a 11) (a 12) (a 13) cd2 fd2 fs2) (hs : ∀ u, u ≠ 6 → u ≠ 16 → u ≠ 17 → mm_same u M M') : Xi g M' a ad at0 fa kr kf kt c cf ct ch cd2 R fr fh F fb fl fd2 fs2 v ck := ⟨hs 1 (by decide) (by decide) (by decide) _ _ h.x, h.rl.kept (fun u hu => hs u (by rcases hu with rfl | rfl | rfl <;> decide) (by rcases hu with rfl | rfl | rfl <;> decide) (by rcases hu with rfl | rfl | rfl <;> decide)), fun i hi => hs 10 (by decide) (by decide) (by decide) _ _ (h.row i hi), h.inj, h.fri, h.hl.kept (fun u hu => hs u (by rcases hu with rfl | rfl <;> decide) (by rcases hu with rfl | rfl <;> decide) (by rcases hu with rfl | rfl <;> decide)), h.tl.kept (fun u hu => hs u (by rcases hu with rfl | rfl | rfl <;> decide) (by rcases hu with rfl | rfl | rfl <;> decide) (by rcases hu with rfl | rfl | rfl <;> decide)), h.cn.kept (fun u hu => hs u (by rcases hu with rfl | rfl | rfl <;> decide) (by rcases hu with rfl | rfl | rfl <;> decide) (by rcases hu with rfl | rfl | rfl <;> decide)), hd, h.it.kept (fun u hu => hs u (by rcases hu with rfl | rfl <;> decide) (by rcases hu with rfl | rfl <;> decide) (by rcases hu with rfl | rfl <;> decide))⟩
theorem Xi.upH (h : Xi g M a ad at0 fa kr kf kt c cf ct ch cd R fr fh F fb fl fd fs v ck) {ch2 : Nat} {fh2 : Nat → Int64} (hd : Hl g M' (a 4) (a 5) ch2 fh2) (hs : ∀ u, u ≠ 3 → u ≠ 15 → mm_same u M M') : Xi g M' a ad at0 fa kr kf kt c cf ct ch2 cd R fr fh2 F fb fl fd fs v ck := ⟨hs 1 (by decide) (by decide) _ _ h.x, h.rl.kept (fun u hu => hs u (by rcases hu with rfl | rfl | rfl <;> decide) (by rcases hu with rfl | rfl | rfl <;> decide)), fun i hi => hs 10 (by decide) (by decide) _ _ (h.row i hi), h.inj, h.fri, hd, h.tl.kept (fun u hu => hs u (by rcases hu with rfl | rfl | rfl <;> decide) (by rcases hu with rfl | rfl | rfl <;> decide)), h.cn.kept (fun u hu => hs u (by rcases hu with rfl | rfl | rfl <;> decide) (by rcases hu with rfl | rfl | rfl <;> decide)), h.dl.kept (fun u hu => hs u (by rcases hu with rfl | rfl | rfl <;> decide) (by rcases hu with rfl | rfl | rfl <;> decide)), h.it.kept (fun u hu => hs u (by rcases hu with rfl | rfl <;> decide) (by rcases hu with rfl | rfl <;> decide))⟩
theorem Xi.upT (h : Xi g M a ad at0 fa kr kf kt c cf ct ch cd R fr fh F fb fl fd fs v ck) {kt2 ct2 : Nat} {at2 : Nat → Nat} {F2 : Nat → Nat → Int32} (hd : Tl g M' (a 6) (a 7) ct2 (cp kt2) at2 F2) (hs : ∀ u, u ≠ 11 → mm_same u M M') : Xi g M' a ad at2 fa kr kf kt2 c cf ct2 ch cd R fr fh F2 fb fl fd fs v ck := ⟨hs 1 (by decide) _ _ h.x, h.rl.kept (fun u hu => hs u (by rcases hu with rfl | rfl | rfl <;> decide)), fun i hi => hs 10 (by decide) _ _ (h.row i hi), h.inj, h.fri, h.hl.kept (fun u hu => hs u (by rcases hu with rfl | rfl <;> decide)), hd, h.cn.kept (fun u hu => hs u (by rcases hu with rfl | rfl | rfl <;> decide)), h.dl.kept (fun u hu => hs u (by rcases hu with rfl | rfl | rfl <;> decide)), h.it.kept (fun u hu => hs u (by rcases hu with rfl | rfl <;> decide))⟩
theorem Xi.upC (h : Xi g M a ad at0 fa kr kf kt c cf ct ch cd R fr fh F fb fl fd fs v ck) (t : Int64) : Xi g (mm_up M (a 0) (xob (a 1) (a 4) (a 6) (a 8) (a 11) (a 14) t)) a ad at0 fa kr kf kt c cf ct ch cd R fr fh F fb fl fd fs v t := by
  have hs : ∀ u, u ≠ 1 → mm_same u M (mm_up M (a 0) (xob (a 1) (a 4) (a 6) (a 8) (a 11) (a 14) t)) := fun u hu => mm_same.up h.x hu _
  exact ⟨mm_self _ _ _, h.rl.kept (fun u hu => hs u (by rcases hu with rfl | rfl | rfl <;> decide)), fun i hi => hs 10 (by decide) _ _ (h.row i hi), h.inj, h.fri, h.hl.kept (fun u hu => hs u (by rcases hu with rfl | rfl <;> decide)), h.tl.kept (fun u hu => hs u (by rcases hu with rfl | rfl | rfl <;> decide)), h.cn.kept (fun u hu => hs u (by rcases hu with rfl | rfl | rfl <;> decide)), h.dl.kept (fun u hu => hs u (by rcases hu with rfl | rfl | rfl <;> decide)), h.it.kept (fun u hu => hs u (by rcases hu with rfl | rfl <;> decide))⟩
theorem Xi.upR (h : Xi g M a ad at0 fa kr kf kt c cf ct ch cd R fr fh F fb fl fd fs v ck) {q kr2 : Nat} {w : rowS} (hq0 : M q = none) (hq : M' q = some (rowE w)) (hal : Al g M' 8 (a 2) (c + 1) (cp kr2) (va_up ad c q)) (hs : ∀ u, u ≠ 8 → mm_same u M M') : Xi g M' a (va_up ad c q) at0 fa kr2 kf kt (c + 1) cf ct ch cd (va_up R c w) fr fh F fb fl fd fs v ck := by
  have hne : ∀ i, i < c → ad i ≠ q := fun i hi => mm_apartN (h.row i hi) hq0
  have hfe : ∀ i, i < cf → va_up ad c q (fr i) = ad (fr i) := fun i hi => va_up_ne _ _ (by have := h.fri i hi; omega)
  refine ⟨hs 1 (by decide) _ _ h.x, ?_, ?_, ?_, (fun i hi => Nat.lt_succ_of_lt (h.fri i hi)), h.hl.kept (fun u hu => hs u (by rcases hu with rfl | rfl <;> decide)), h.tl.kept (fun u hu => hs u (by rcases hu with rfl | rfl | rfl <;> decide)), h.cn.kept (fun u hu => hs u (by rcases hu with rfl | rfl | rfl <;> decide)), h.dl.kept (fun u hu => hs u (by rcases hu with rfl | rfl | rfl <;> decide)), h.it.kept (fun u hu => hs u (by rcases hu with rfl | rfl <;> decide))⟩
  · obtain ⟨mo, ea, h1, h2⟩ := h.rl.2.2.kept (hs 9 (by decide))
    refine ⟨hs 2 (by decide) _ _ h.rl.1, hal, mo, ea, h1, ?_⟩
    rcases h2 with h2 | ⟨k1, k2, k3, f, k4, k5, k6⟩
    · exact Or.inl h2
    · exact Or.inr ⟨k1, k2, k3, f, k4, fun i hi => by rw [k5 i hi]; show some (ad (fr i)) = some (va_up ad c q (fr i)); rw [hfe i hi], k6⟩
  · intro i hi
    by_cases z : i = c
    · subst z; rw [va_up_self, va_up_self]; exact hq
    · rw [va_up_ne _ _ z, va_up_ne _ _ z]; exact hs 10 (by decide) _ _ (h.row i (by omega))
  · intro i j hi hj z
    by_cases z1 : i = c
    · by_cases z2 : j = c
      · omega
      · rw [z1, va_up_self, va_up_ne _ _ z2] at z; exact absurd z.symm (hne j (by omega))
    · by_cases z2 : j = c
      · rw [z2, va_up_self, va_up_ne _ _ z1] at z; exact absurd z (hne i (by omega))
      · rw [va_up_ne _ _ z1, va_up_ne _ _ z2] at z; exact h.inj i j (by omega) (by omega) z
theorem Xi.upN (h : Xi g M a ad at0 fa kr kf kt c cf ct ch cd R fr fh F fb fl fd fs v ck) {k kf2 : Nat} {w : rowS} (hk : k < c) (hq : M' (ad k) = some (rowE w)) (ho : ∀ b x, b ≠ ad k → M b = some (10, x) → M' b = some (10, x)) (hal : Al g M' 9 (a 3) (cf + 1) (cp kf2) (va_up (fun i => ad (fr i)) cf (ad k))) (hs : ∀ u, u ≠ 9 → u ≠ 10 → mm_same u M M') : Xi g M' a ad at0 fa kr kf2 kt c (cf + 1) ct ch cd (va_up R k w) (va_up fr cf k) fh F fb fl fd fs v ck := by
  refine ⟨hs 1 (by decide) (by decide) _ _ h.x, ?_, ?_, h.inj, ?_, h.hl.kept (fun u hu => hs u (by rcases hu with rfl | rfl <;> decide) (by rcases hu with rfl | rfl <;> decide)), h.tl.kept (fun u hu => hs u (by rcases hu with rfl | rfl | rfl <;> decide) (by rcases hu with rfl | rfl | rfl <;> decide)), h.cn.kept (fun u hu => hs u (by rcases hu with rfl | rfl | rfl <;> decide) (by rcases hu with rfl | rfl | rfl <;> decide)), h.dl.kept (fun u hu => hs u (by rcases hu with rfl | rfl | rfl <;> decide) (by rcases hu with rfl | rfl | rfl <;> decide)), h.it.kept (fun u hu => hs u (by rcases hu with rfl | rfl <;> decide) (by rcases hu with rfl | rfl <;> decide))⟩
  · refine ⟨hs 2 (by decide) (by decide) _ _ h.rl.1, h.rl.2.1.kept (hs 8 (by decide) (by decide)), ?_⟩
    have e : va_up (fun i => ad (fr i)) cf (ad k) = fun i => ad (va_up fr cf k i) := by
      funext i
      by_cases z : i = cf
      · subst z; rw [va_up_self, va_up_self]
      · rw [va_up_ne _ _ z, va_up_ne _ _ z]
    rw [e] at hal
    exact hal
  · intro i hi
    by_cases z : i = k
    · subst z; rw [va_up_self]; exact hq
    · rw [va_up_ne _ _ z]; exact ho _ _ (fun y => z (h.inj i k hi hk y)) (h.row i hi)
  · intro i hi
    by_cases z : i = cf
    · subst z; rw [va_up_self]; exact hk
    · rw [va_up_ne _ _ z]; exact h.fri i (by omega)
end XI
