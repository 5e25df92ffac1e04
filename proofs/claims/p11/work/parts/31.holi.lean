/-! THE CLASS: HolidayList; Math's max and min -/
def Hl (g : mm_G) (M : mm_M) (h da c : Nat) (f : Nat → Int64) : Prop := M h = some (ob 3 4 [.ref da, .int (nI c)]) ∧ M da = some (al 15 (g.2.2 1) 100 f)
theorem nI_m1 {n : Nat} (h : 0 < n) : nI n - 1 = nI (n - 1) := by
  have k := pk_sub (a := n) (b := 1) h
  exact k
/-- x comes into the first c of f, behind all that are not above it -/
def insL {α : Type} [LT α] [LE α] (f f' : Nat → α) (c : Nat) (x : α) : Prop := ∃ p, p ≤ c ∧ (∀ i, i < p → f' i = f i) ∧ f' p = x ∧ (∀ i, p ≤ i → i < c → f' (i + 1) = f i ∧ x < f i) ∧ (p = 0 ∨ f (p - 1) ≤ x)
def mxl (x y : Int64) : Int64 := if y < x then x else y
/-- the due time when i holidays were looked at -/
def dA (f : Nat → Int64) (t w : Int64) : Nat → Int64
  | 0 => t + w
  | i + 1 => if mxl (f i * 86400) t < f i * 86400 + 86400 ∧ mxl (f i * 86400) t < dA f t w i then dA f t w i + (f i * 86400 + 86400 - mxl (f i * 86400) t) else dA f t w i
theorem mm_max {p : Program} {l : Launch} {e : Env} {R : Room} {s : State} {m : MethodId} {args : Array Value} {below : List Frame} {meth : Method} {c : Code} {H : Heap} {locs : List Loc} {cells slots : Nat} {Q : State → Prop} {cc : ByteArray} {pc : Nat} {ls : Array Slot} {rest : List Value} {g : mm_G} {own : String} (E : mm_C g p s m args c cc own) {nL : Nat} (hml : c.maxLocals = nL) (hsz : ls.size = nL) {index : Nat} (hL : Cond.methodLink own index y_Math_max ∈ GW) (hf : 1 ≤ R.frames) (hl : (rest.map fun v => v.category).sum + 13 ≤ R.locals) (hc : cells ≤ R.cells) (hs : slots ≤ R.slots) {x y : Int32} (hdg : decode cc pc = .ok (.invokestatic index, 3))
    (kk : W p l e R s m args below meth c H locs cells slots Q (F0 m (pc + 3) ls (.int (if x < y then y else x) :: rest))) : W p l e R s m args below meth c H locs cells slots Q (F0 m pc ls (.int y :: .int x :: rest)) :=
  va_mmax E.1 E.2.1 (hml.trans hsz.symm) E.2.2.1 (E.2.2.2.1 _ hL) (E.2.2.2.1 _ st_Math_max) (E.2.2.2.1 _ w_14) (E.2.2.2.1 _ (show Cond.code Lib.Math.max.name Lib.Math.max.code 2 (some .int) ∈ GW from w_262)) hf hl hc hs hdg kk
theorem mm_min {p : Program} {l : Launch} {e : Env} {R : Room} {s : State} {m : MethodId} {args : Array Value} {below : List Frame} {meth : Method} {c : Code} {H : Heap} {locs : List Loc} {cells slots : Nat} {Q : State → Prop} {cc : ByteArray} {pc : Nat} {ls : Array Slot} {rest : List Value} {g : mm_G} {own : String} (E : mm_C g p s m args c cc own) {nL : Nat} (hml : c.maxLocals = nL) (hsz : ls.size = nL) {index : Nat} (hL : Cond.methodLink own index y_Math_min ∈ GW) (hf : 1 ≤ R.frames) (hl : (rest.map fun v => v.category).sum + 13 ≤ R.locals) (hc : cells ≤ R.cells) (hs : slots ≤ R.slots) {x y : Int32} (hdg : decode cc pc = .ok (.invokestatic index, 3))
    (kk : W p l e R s m args below meth c H locs cells slots Q (F0 m (pc + 3) ls (.int (if y < x then y else x) :: rest))) : W p l e R s m args below meth c H locs cells slots Q (F0 m pc ls (.int y :: .int x :: rest)) :=
  va_mmin E.1 E.2.1 (hml.trans hsz.symm) E.2.2.1 (E.2.2.2.1 _ hL) (E.2.2.2.1 _ st_Math_min) (E.2.2.2.1 _ w_14) (E.2.2.2.1 _ (show Cond.code Lib.Math.min.name Lib.Math.min.code 2 (some .int) ∈ GW from w_294)) hf hl hc hs hdg kk
theorem mm_maxl {p : Program} {l : Launch} {e : Env} {R : Room} {s : State} {m : MethodId} {args : Array Value} {below : List Frame} {meth : Method} {c : Code} {H : Heap} {locs : List Loc} {cells slots : Nat} {Q : State → Prop} {cc : ByteArray} {pc : Nat} {ls : Array Slot} {rest : List Value} {g : mm_G} {own : String} (E : mm_C g p s m args c cc own) {nL : Nat} (hml : c.maxLocals = nL) (hsz : ls.size = nL) {index : Nat} (hL : Cond.methodLink own index y_Math_maxl ∈ GW) (hf : 1 ≤ R.frames) (hl : (rest.map fun v => v.category).sum + 15 ≤ R.locals) (hc : cells ≤ R.cells) (hs : slots ≤ R.slots) {x y : Int64} (hdg : decode cc pc = .ok (.invokestatic index, 3))
    (kk : W p l e R s m args below meth c H locs cells slots Q (F0 m (pc + 3) ls (.long (mxl x y) :: rest))) : W p l e R s m args below meth c H locs cells slots Q (F0 m pc ls (.long y :: .long x :: rest)) :=
  va_mmax_long E.1 E.2.1 (hml.trans hsz.symm) E.2.2.1 (E.2.2.2.1 _ hL) (E.2.2.2.1 _ st_Math_maxl) (E.2.2.2.1 _ w_14) (E.2.2.2.1 _ (show Cond.code Lib.MathLoose.max_long.x Lib.MathLoose.max_long.code 4 (some .long) ∈ GW from w_374)) hf hl hc hs hdg kk
set_option maxHeartbeats 4000000 in
set_option maxRecDepth 100000 in
theorem c_Holi_init (l : Launch) (g : mm_G) {M0 : mm_M} {h : Nat} (h0 : M0 h = some (ob 3 4 [.null, .int 0])) : Cv l g y_Holi_init b_Holi_init 1 (rk 1 20 1 100) M0 [.ref h] (fun M' => ∃ da, Hl g M' h da 0 (fun _ => 0) ∧ ∀ t, t ≠ 3 → t ≠ 15 → mm_same t M0 M') := by
  refine mm_enter (by decide) (Nat.le_of_ble_eq_true rfl) (fun pG eV s m args below meth cdx ls Q E hml hr hlk hnm hZ hl eQ => ?_)
  have hx := E.1
  have hb := E.2.1
  have hl : lv_has ls 1 [(0, .ref h)] := hl
  refine lv_aload_n hx hb d_Holi_init_0 rfl (lv_at hl 0 rfl) ?_
  refine mm_objI E hml hl.1 w_76 w_30 w_31 (Nat.le_of_ble_eq_true rfl) (Nat.le_of_ble_eq_true rfl) d_Holi_init_1 ?_
  refine lv_aload_n hx hb d_Holi_init_4 rfl (lv_at hl 0 rfl) ?_
  refine lv_bipush (v := 100) hx hb d_Holi_init_5 (by decide) ?_
  refine mm_newl 15 (t0 := 1) (cA := g.2.2 1) (N := 100) E hZ rfl w_84 (by decide) (by decide) (by decide) (Nat.le_of_ble_eq_true rfl) (Nat.le_of_ble_eq_true rfl) d_Holi_init_7 (fun da H hB hN hZ => ?_)
  obtain ⟨Ma, eMa⟩ : ∃ zz : mm_M, zz = mm_up M0 da (al 15 (g.2.2 1) 100 (fun _ => 0)) := ⟨_, rfl⟩
  have hZ : mm_S g s Ma H [] := by rw [eMa]; exact hZ
  have h1 := (congrFun eMa h).trans ((mm_ne _ _ (mm_apartN h0 hN)).trans h0)
  have h2 := (congrFun eMa da).trans (mm_self _ _ _)
  refine mm_putF (k := 0) E hnm hZ cl_Holi w_77 (by decide) rfl rfl h1 (by decide) rfl rfl (Nat.le_of_ble_eq_true rfl) d_Holi_init_9 (fun H locs hZ => ?_)
  obtain ⟨M3, eM3⟩ : ∃ zz : mm_M, zz = mm_up Ma h (ob 3 4 [.ref da, .int 0]) := ⟨_, rfl⟩
  have hZ : mm_S g s M3 H locs := by rw [eM3]; exact hZ
  have h4 := (congrFun eM3 da).trans ((mm_ne _ _ (mm_tag h2 h1 (by decide))).trans h2)
  have h5 := (congrFun eM3 h).trans (mm_self _ _ _)
  refine lv_aload_n hx hb d_Holi_init_12 rfl (lv_at hl 0 rfl) ?_
  refine lv_iconst (v := 0) hx hb d_Holi_init_13 (by decide) ?_
  refine mm_put E hZ cl_Holi fl_Holi_15 (by decide) rfl h5 (by decide) rfl rfl (Nat.le_of_ble_eq_true rfl) d_Holi_init_14 (fun H locs hZ => ?_)
  obtain ⟨M6, eM6⟩ : ∃ zz : mm_M, zz = mm_up M3 h (ob 3 4 [.ref da, .int 0]) := ⟨_, rfl⟩
  have hZ : mm_S g s M6 H locs := by rw [eM6]; exact hZ
  have h7 := (congrFun eM6 da).trans ((mm_ne _ _ (mm_tag h4 h5 (by decide))).trans h4)
  have h8 := (congrFun eM6 h).trans (mm_self _ _ _)
  exact mm_vret E hr hlk eQ hZ d_Holi_init_17 ⟨rfl, da, ⟨h8, h7⟩, fun t h3 h15 => by
    rw [eM6, eM3, eMa]
    exact (mm_same.new hN _).tr ((mm_same.up ((mm_ne _ _ (mm_apartN h0 hN)).trans h0) h3 _).tr (mm_same.up (mm_self _ _ _) h3 _))⟩
set_option maxHeartbeats 4000000 in
set_option maxRecDepth 100000 in
theorem c_Holi_holds (l : Launch) (g : mm_G) {M0 : mm_M} {h da c : Nat} {f : Nat → Int64} (h0 : Hl g M0 h da c f) (hc : c ≤ 100) (x : Int64) : Ci l g y_Holi_holds b_Holi_holds 4 .boolean (rk 0 0 0 0) M0 [.ref h, .long x] (fun r M' => M' = M0 ∧ bo r ∧ (¬ r = 0 ↔ ∃ j, j < c ∧ f j = x)) := by
  refine mm_enter (by decide) (Nat.le_of_ble_eq_true rfl) (fun pG eV s m args below meth cdx ls Q E hml hr hlk hnm hZ hl eQ => ?_)
  have hx := E.1
  have hb := E.2.1
  have hl : lv_has ls 4 [(0, .ref h), (1, .long x)] := hl
  have hh := h0.1
  have hd := h0.2
  refine lv_iconst (v := 0) hx hb d_Holi_holds_0 (by decide) ?_
  refine lv_istore_n (lv' := [(3, .int 0), (0, .ref h), (1, .long x)]) hx hb d_Holi_holds_1 rfl hl (by decide) rfl (fun ls hl => ?_)
  have loop : ∀ (n : Nat) (i : Nat) (ls : Array Slot), i ≤ c → (∀ j, j < i → ¬ f j = x) → c + 1 ≤ i + n → lv_has ls 4 [(0, .ref h), (1, .long x), (3, .int (nI i))] → W pG l eV (rk 0 0 0 0) s m args below meth cdx s.heap [] 0 0 Q (F0 m 2 ls []) := by
    intro n
    induction n with
    | zero => exact fun i ls hi1 hno hfu _ => absurd hfu (by omega)
    | succ n ih =>
      intro i ls hi1 hno hfu hl
      refine lv_iload_n hx hb d_Holi_holds_2 rfl (lv_at hl 2 rfl) ?_
      refine lv_aload_n hx hb d_Holi_holds_3 rfl (lv_at hl 0 rfl) ?_
      refine mm_get E hZ cl_Holi fl_Holi_15 (by decide) hh rfl d_Holi_holds_4 ?_
      refine lv_icmp_ge (tgt := 29) hx hb d_Holi_holds_7 (by decide) (fun c7 => ?_) (fun c7 => ?_)
      · have hi2 : i = c := by
          rcases Nat.lt_or_ge i c with z | z
          · exact absurd c7 (nI_ge z (by omega))
          · omega
        rw [hi2] at hno
        refine lv_iconst (v := 0) hx hb d_Holi_holds_29 (by decide) ?_
        exact mm_zret (v := 0) E hr hlk eQ hZ rfl d_Holi_holds_30 ⟨_, rfl, rfl, bo_0, ⟨fun z => absurd rfl z, fun ⟨j, z1, z2⟩ => absurd z2 (hno j z1)⟩⟩
      · have hi2 : i < c := by
          rcases Nat.lt_or_ge i c with z | z
          · exact z
          · exact absurd (nI_le z (by omega)) c7
        refine lv_aload_n hx hb d_Holi_holds_10 rfl (lv_at hl 0 rfl) ?_
        refine mm_get E hZ cl_Holi fl_Holi_9 (by decide) hh rfl d_Holi_holds_11 ?_
        refine lv_iload_n hx hb d_Holi_holds_14 rfl (lv_at hl 2 rfl) ?_
        refine mm_lald (t0 := 1) E hZ hd rfl rfl (show i < 100 by omega) (by decide) d_Holi_holds_15 ?_
        refine lv_lload_n hx hb d_Holi_holds_16 rfl (lv_at hl 1 rfl) ?_
        refine W.lcmp hx hb d_Holi_holds_17 ?_
        refine lv_if_ne (tgt := 23) hx hb d_Holi_holds_18 (by decide) (fun c18 => ?_) (fun c18 => ?_)
        · have c18 := mt (lg_cmp_eq _ _).mpr c18
          refine lv_iinc (v := (nI i) + 1) (lv' := [(3, .int ((nI i) + 1)), (0, .ref h), (1, .long x)]) hx hb d_Holi_holds_23 hl (k := 2) rfl rfl (by decide) rfl (fun ls hl => ?_)
          refine lv_goto (tgt := 2) hx hb d_Holi_holds_26 (by decide) ?_
          rw [nI_1] at hl
          exact ih (i + 1) ls (by omega) (fun j z => by
            rcases Nat.lt_or_ge j i with y | y
            · exact hno j y
            · rw [show j = i by omega]; exact c18) (by omega) (lv_sub hl [1, 2, 0] rfl)
        · have c18 := (lg_cmp_eq _ _).mp c18
          refine lv_iconst (v := 1) hx hb d_Holi_holds_21 (by decide) ?_
          exact mm_zret (v := 1) E hr hlk eQ hZ rfl d_Holi_holds_22 ⟨_, rfl, rfl, bo_1, ⟨fun _ => ⟨i, hi2, c18⟩, fun _ => by decide⟩⟩
  exact loop (c + 1) 0 ls (Nat.zero_le _) (fun j z => absurd z (Nat.not_lt_zero j)) (by omega) (lv_sub hl [1, 2, 0] rfl)
set_option maxHeartbeats 4000000 in
set_option maxRecDepth 100000 in
theorem c_Holi_addDay (l : Launch) (g : mm_G) {M0 : mm_M} {h da c : Nat} {f : Nat → Int64} (h0 : Hl g M0 h da c f) (hc : c ≤ 100) (x : Int64) : Ci l g y_Holi_addDay b_Holi_addDay 4 .int (rk 1 23 0 0) M0 [.ref h, .long x] (fun r M' => ((∃ j, j < c ∧ f j = x) ∧ r = 0 ∧ M' = M0) ∨ ((¬ ∃ j, j < c ∧ f j = x) ∧ 100 ≤ c ∧ r = (-104) ∧ M' = M0) ∨ ((¬ ∃ j, j < c ∧ f j = x) ∧ c < 100 ∧ r = 1 ∧ ∃ f', Hl g M' h da (c + 1) f' ∧ insL f f' c x ∧ ∀ t, t ≠ 3 → t ≠ 15 → mm_same t M0 M')) := by
  refine mm_enter (by decide) (Nat.le_of_ble_eq_true rfl) (fun pG eV s m args below meth cdx ls Q E hml hr hlk hnm hZ hl eQ => ?_)
  have hx := E.1
  have hb := E.2.1
  have hl : lv_has ls 4 [(0, .ref h), (1, .long x)] := hl
  have hh := h0.1
  have hd := h0.2
  refine lv_aload_n hx hb d_Holi_addDay_0 rfl (lv_at hl 0 rfl) ?_
  refine lv_lload_n hx hb d_Holi_addDay_1 rfl (lv_at hl 1 rfl) ?_
  refine mm_calli (mm_runV (As := [.long x]) (rest := []) E hZ hml hl.1 lk_Holi_19 me_Holi_holds in_Holi_holds (c_Holi_holds l g h0 hc x) hh cl_Holi.1 ⟨Nat.le_of_ble_eq_true rfl, Nat.le_of_ble_eq_true rfl⟩ rfl (Nat.le_of_ble_eq_true rfl) d_Holi_addDay_2 ⟨Nat.le_of_ble_eq_true rfl, Nat.le_of_ble_eq_true rfl⟩) hZ (fun r1 M1 H locs hp hZ => ?_)
  rw [hp.1] at hZ
  replace hp := hp.2
  refine lv_if_eq (tgt := 10) hx hb d_Holi_addDay_5 (by decide) (fun c5 => ?_) (fun c5 => ?_)
  · have hno : ¬ ∃ j, j < c ∧ f j = x := fun z => absurd c5 (hp.2.mpr z)
    refine lv_aload_n hx hb d_Holi_addDay_10 rfl (lv_at hl 0 rfl) ?_
    refine mm_get E hZ cl_Holi fl_Holi_15 (by decide) hh rfl d_Holi_addDay_11 ?_
    refine lv_bipush (v := 100) hx hb d_Holi_addDay_14 (by decide) ?_
    refine lv_icmp_lt (tgt := 22) hx hb d_Holi_addDay_16 (by decide) (fun c16 => ?_) (fun c16 => ?_)
    · have hc2 : c < 100 := by
        rcases Nat.lt_or_ge c 100 with z | z
        · exact z
        · exact absurd c16 (nI_nlt z (by omega))
      refine lv_aload_n hx hb d_Holi_addDay_22 rfl (lv_at hl 0 rfl) ?_
      refine mm_get E hZ cl_Holi fl_Holi_15 (by decide) hh rfl d_Holi_addDay_23 ?_
      refine lv_istore_n (lv' := [(3, .int (nI c)), (0, .ref h), (1, .long x)]) hx hb d_Holi_addDay_26 rfl hl (by decide) rfl (fun ls hl => ?_)
      have loop : ∀ (n : Nat) (fx : Nat → Int64) (k : Nat) (M : mm_M) (H : Heap) (locs : List Loc) (ls : Array Slot), mm_S g s M H locs → M h = some (ob 3 4 [.ref da, .int (nI c)]) → M da = some (al 15 (g.2.2 1) 100 fx) → k ≤ c → (∀ i, i < k → fx i = f i) → (∀ i, k ≤ i → i < c → fx (i + 1) = f i ∧ x < f i) → (∀ t, t ≠ 3 → t ≠ 15 → mm_same t M0 M) → k + 1 ≤ n → lv_has ls 4 [(0, .ref h), (1, .long x), (3, .int (nI k))] → W pG l eV (rk 1 23 0 0) s m args below meth cdx H locs 0 0 Q (F0 m 27 ls []) := by
        intro n
        induction n with
        | zero => exact fun fx k M H locs ls _ hMh hMd hk hlo hhi hs hfu _ => absurd hfu (by omega)
        | succ n ih =>
          intro fx k M H locs ls hZ hMh hMd hk hlo hhi hs hfu hl
          have J64 : ∀  (ls : Array Slot), k = 0 ∨ f (k - 1) ≤ x → lv_has ls 4 [(0, .ref h), (1, .long x), (3, .int (nI k))] → W pG l eV (rk 1 23 0 0) s m args below meth cdx H locs 0 0 Q (F0 m 64 ls []) := by
            intro  ls hst hl
            refine lv_aload_n hx hb d_Holi_addDay_64 rfl (lv_at hl 0 rfl) ?_
            refine mm_get E hZ cl_Holi fl_Holi_9 (by decide) hMh rfl d_Holi_addDay_65 ?_
            refine lv_iload_n hx hb d_Holi_addDay_68 rfl (lv_at hl 2 rfl) ?_
            refine lv_lload_n hx hb d_Holi_addDay_69 rfl (lv_at hl 1 rfl) ?_
            refine mm_last (t0 := 1) E hZ hMd rfl (by decide) rfl (show k < 100 by omega) (by decide) d_Holi_addDay_70 (fun H locs hZ => ?_)
            obtain ⟨M2, eM2⟩ : ∃ zz : mm_M, zz = mm_up M da (al 15 (g.2.2 1) 100 (va_up fx k x)) := ⟨_, rfl⟩
            have hZ : mm_S g s M2 H locs := by rw [eM2]; exact hZ
            have h3 := (congrFun eM2 h).trans ((mm_ne _ _ (mm_tag hMh hMd (by decide))).trans hMh)
            have h4 := (congrFun eM2 da).trans (mm_self _ _ _)
            refine lv_aload_n hx hb d_Holi_addDay_71 rfl (lv_at hl 0 rfl) ?_
            refine lv_dup hx hb d_Holi_addDay_72 rfl ?_
            refine mm_get E hZ cl_Holi fl_Holi_15 (by decide) h3 rfl d_Holi_addDay_73 ?_
            refine lv_iconst (v := 1) hx hb d_Holi_addDay_76 (by decide) ?_
            refine lv_iadd hx hb d_Holi_addDay_77 ?_
            refine mm_put E hZ cl_Holi fl_Holi_15 (by decide) rfl h3 (by decide) rfl rfl (Nat.le_of_ble_eq_true rfl) d_Holi_addDay_78 (fun H locs hZ => ?_)
            obtain ⟨M5, eM5⟩ : ∃ zz : mm_M, zz = mm_up M2 h (ob 3 4 [.ref da, .int ((nI c) + 1)]) := ⟨_, rfl⟩
            have hZ : mm_S g s M5 H locs := by rw [eM5]; exact hZ
            have h6 := (congrFun eM5 da).trans ((mm_ne _ _ (mm_tag h4 h3 (by decide))).trans h4)
            have h7 := (congrFun eM5 h).trans (mm_self _ _ _)
            refine lv_iconst (v := 1) hx hb d_Holi_addDay_81 (by decide) ?_
            exact mm_iret (v := 1) E hr hlk eQ hZ d_Holi_addDay_82 ⟨_, rfl, Or.inr (Or.inr ⟨hno, hc2, rfl, _, ⟨by rw [← nI_1]; exact h7, h6⟩, ⟨k, hk, fun i z => (va_up_ne _ _ (by omega)).trans (hlo i z), va_up_self _ _ _, fun i z1 z2 => ⟨(va_up_ne _ _ (by omega)).trans (hhi i z1 z2).1, (hhi i z1 z2).2⟩, hst⟩, fun t h3 h15 => by
              rw [eM5, eM2]
              exact (hs t h3 h15).tr ((mm_same.up hMd h15 _).tr (mm_same.up ((mm_ne _ _ (mm_tag hMh hMd (by decide))).trans hMh) h3 _))⟩)⟩
          refine lv_iload_n hx hb d_Holi_addDay_27 rfl (lv_at hl 2 rfl) ?_
          refine lv_if_le (tgt := 64) hx hb d_Holi_addDay_28 (by decide) (fun c28 => ?_) (fun c28 => ?_)
          · exact J64 ls (Or.inl (by
              rcases Nat.eq_zero_or_pos k with z | z
              · exact z
              · exact absurd c28 (nI_nle z (by omega)))) (lv_sub hl [0, 1, 2] rfl)
          · have hk0 : 0 < k := by
              rcases Nat.eq_zero_or_pos k with z | z
              · exact absurd (show nI k ≤ 0 by rw [z]; decide) c28
              · exact z
            refine lv_aload_n hx hb d_Holi_addDay_31 rfl (lv_at hl 0 rfl) ?_
            refine mm_get E hZ cl_Holi fl_Holi_9 (by decide) hMh rfl d_Holi_addDay_32 ?_
            refine lv_iload_n hx hb d_Holi_addDay_35 rfl (lv_at hl 2 rfl) ?_
            refine lv_iconst (v := 1) hx hb d_Holi_addDay_36 (by decide) ?_
            refine lv_isub hx hb d_Holi_addDay_37 ?_
            refine mm_lald (t0 := 1) E hZ hMd rfl (nI_m1 hk0) (show (k - 1) < 100 by omega) (by decide) d_Holi_addDay_38 ?_
            refine lv_lload_n hx hb d_Holi_addDay_39 rfl (lv_at hl 1 rfl) ?_
            refine W.lcmp hx hb d_Holi_addDay_40 ?_
            refine lv_if_le (tgt := 64) hx hb d_Holi_addDay_41 (by decide) (fun c41 => ?_) (fun c41 => ?_)
            · have c41 := (lg_cmp_le _ _).mp c41
              exact J64 ls (Or.inr (by rw [← hlo _ (show k - 1 < k by omega)]; exact c41)) (lv_sub hl [0, 1, 2] rfl)
            · have c41 := mt (lg_cmp_le _ _).mpr c41
              refine lv_aload_n hx hb d_Holi_addDay_44 rfl (lv_at hl 0 rfl) ?_
              refine mm_get E hZ cl_Holi fl_Holi_9 (by decide) hMh rfl d_Holi_addDay_45 ?_
              refine lv_iload_n hx hb d_Holi_addDay_48 rfl (lv_at hl 2 rfl) ?_
              refine lv_aload_n hx hb d_Holi_addDay_49 rfl (lv_at hl 0 rfl) ?_
              refine mm_get E hZ cl_Holi fl_Holi_9 (by decide) hMh rfl d_Holi_addDay_50 ?_
              refine lv_iload_n hx hb d_Holi_addDay_53 rfl (lv_at hl 2 rfl) ?_
              refine lv_iconst (v := 1) hx hb d_Holi_addDay_54 (by decide) ?_
              refine lv_isub hx hb d_Holi_addDay_55 ?_
              refine mm_lald (t0 := 1) E hZ hMd rfl (nI_m1 hk0) (show (k - 1) < 100 by omega) (by decide) d_Holi_addDay_56 ?_
              refine mm_last (t0 := 1) E hZ hMd rfl (by decide) rfl (show k < 100 by omega) (by decide) d_Holi_addDay_57 (fun H locs hZ => ?_)
              obtain ⟨M8, eM8⟩ : ∃ zz : mm_M, zz = mm_up M da (al 15 (g.2.2 1) 100 (va_up fx k (fx (k - 1)))) := ⟨_, rfl⟩
              have hZ : mm_S g s M8 H locs := by rw [eM8]; exact hZ
              have h9 := (congrFun eM8 h).trans ((mm_ne _ _ (mm_tag hMh hMd (by decide))).trans hMh)
              have h10 := (congrFun eM8 da).trans (mm_self _ _ _)
              refine lv_iinc (v := (nI k) + (-1)) (lv' := [(3, .int ((nI k) + (-1))), (0, .ref h), (1, .long x)]) hx hb d_Holi_addDay_58 hl (k := 2) rfl rfl (by decide) rfl (fun ls hl => ?_)
              refine lv_goto (tgt := 27) hx hb d_Holi_addDay_61 (by decide) ?_
              rw [show nI k + (-1) = nI (k - 1) from sb_m1 hk0] at hl
              generalize M8 = M at hZ h9 h10 eM8
              exact ih _ (k - 1) M H locs ls hZ h9 h10 (by omega) (fun i z => (va_up_ne _ _ (by omega)).trans (hlo i (by omega))) (fun i z1 z2 => by
                by_cases e : i = k - 1
                · subst e
                  rw [show k - 1 + 1 = k by omega, va_up_self, hlo _ (by omega)]
                  exact ⟨rfl, by rw [← hlo _ (show k - 1 < k by omega)]; exact Int64.not_le.mp c41⟩
                · rw [va_up_ne _ _ (by omega)]
                  exact hhi i (by omega) z2) (fun t h3 h15 => by rw [eM8]; exact (hs t h3 h15).tr (mm_same.up hMd h15 _)) (by omega) (lv_sub hl [1, 2, 0] rfl)
      exact loop (c + 1) f c M0 H locs ls hZ hh hd (Nat.le_refl _) (fun i _ => rfl) (fun i z1 z2 => absurd z1 (by omega)) (fun t _ _ => mm_same.rf) (Nat.le_refl _) (lv_sub hl [1, 2, 0] rfl)
    · refine lv_bipush (v := (-104)) hx hb d_Holi_addDay_19 (by decide) ?_
      exact mm_iret (v := (-104)) E hr hlk eQ hZ d_Holi_addDay_21 ⟨_, rfl, Or.inr (Or.inl ⟨hno, by
        rcases Nat.lt_or_ge c 100 with z | z
        · exact absurd (nI_lt z (by decide)) c16
        · exact z, rfl, rfl⟩)⟩
  · refine lv_iconst (v := 0) hx hb d_Holi_addDay_8 (by decide) ?_
    exact mm_iret (v := 0) E hr hlk eQ hZ d_Holi_addDay_9 ⟨_, rfl, Or.inl ⟨hp.2.mp c5, rfl, rfl⟩⟩
set_option maxHeartbeats 4000000 in
set_option maxRecDepth 100000 in
theorem c_Holi_dueAfter (l : Launch) (g : mm_G) {M0 : mm_M} {h da c : Nat} {f : Nat → Int64} (h0 : Hl g M0 h da c f) (hc : c ≤ 100) (t wi : Int64) : Cl l g y_Holi_dueAfter b_Holi_dueAfter 12 (rk 1 23 0 0) M0 [.ref h, .long t, .long wi] (fun r M' => M' = M0 ∧ r = dA f t wi c) := by
  refine mm_enter (by decide) (Nat.le_of_ble_eq_true rfl) (fun pG eV s m args below meth cdx ls Q E hml hr hlk hnm hZ hl eQ => ?_)
  have hx := E.1
  have hb := E.2.1
  have hl : lv_has ls 12 [(0, .ref h), (1, .long t), (3, .long wi)] := hl
  have hh := h0.1
  have hd := h0.2
  refine lv_lload_n hx hb d_Holi_dueAfter_0 rfl (lv_at hl 1 rfl) ?_
  refine lv_lload_n hx hb d_Holi_dueAfter_1 rfl (lv_at hl 2 rfl) ?_
  refine lv_ladd hx hb d_Holi_dueAfter_2 ?_
  refine lv_lstore (lv' := [(5, .long (t + wi)), (0, .ref h), (1, .long t), (3, .long wi)]) hx hb d_Holi_dueAfter_3 hl (by decide) rfl (fun ls hl => ?_)
  refine lv_iconst (v := 0) hx hb d_Holi_dueAfter_5 (by decide) ?_
  refine lv_istore (lv' := [(7, .int 0), (5, .long (t + wi)), (0, .ref h), (1, .long t), (3, .long wi)]) hx hb d_Holi_dueAfter_6 hl (by decide) rfl (fun ls hl => ?_)
  have loop : ∀ (n : Nat) (i : Nat) (ls : Array Slot), i ≤ c → c + 1 ≤ i + n → lv_has ls 12 [(0, .ref h), (1, .long t), (5, .long (dA f t wi i)), (7, .int (nI i))] → W pG l eV (rk 1 23 0 0) s m args below meth cdx s.heap [] 0 0 Q (F0 m 8 ls []) := by
    intro n
    induction n with
    | zero => exact fun i ls hi1 hfu _ => absurd hfu (by omega)
    | succ n ih =>
      intro i ls hi1 hfu hl
      refine lv_iload hx hb d_Holi_dueAfter_8 (lv_at hl 3 rfl) ?_
      refine lv_aload_n hx hb d_Holi_dueAfter_10 rfl (lv_at hl 0 rfl) ?_
      refine mm_get E hZ cl_Holi fl_Holi_15 (by decide) hh rfl d_Holi_dueAfter_11 ?_
      refine lv_icmp_ge (tgt := 83) hx hb d_Holi_dueAfter_14 (by decide) (fun c14 => ?_) (fun c14 => ?_)
      · have hi2 : i = c := by
          rcases Nat.lt_or_ge i c with z | z
          · exact absurd c14 (nI_ge z (by omega))
          · omega
        subst hi2
        refine lv_lload hx hb d_Holi_dueAfter_83 (lv_at hl 2 rfl) ?_
        exact mm_lret (v := dA f t wi i) E hr hlk eQ hZ d_Holi_dueAfter_85 ⟨_, rfl, rfl, rfl⟩
      · have hi2 : i < c := by
          rcases Nat.lt_or_ge i c with z | z
          · exact z
          · exact absurd (nI_le z (by omega)) c14
        refine lv_aload_n hx hb d_Holi_dueAfter_17 rfl (lv_at hl 0 rfl) ?_
        refine mm_get E hZ cl_Holi fl_Holi_9 (by decide) hh rfl d_Holi_dueAfter_18 ?_
        refine lv_iload hx hb d_Holi_dueAfter_21 (lv_at hl 3 rfl) ?_
        refine mm_lald (t0 := 1) E hZ hd rfl rfl (show i < 100 by omega) (by decide) d_Holi_dueAfter_23 ?_
        refine lv_ldc2 (v := 86400) hx hb E.2.2.1 (E.2.2.2.1 _ w_371) d_Holi_dueAfter_24 ?_
        refine lv_lmul hx hb d_Holi_dueAfter_27 ?_
        refine lv_lload_n hx hb d_Holi_dueAfter_28 rfl (lv_at hl 1 rfl) ?_
        refine mm_maxl E hml hl.1 w_372 (Nat.le_of_ble_eq_true rfl) (Nat.le_of_ble_eq_true rfl) (Nat.le_of_ble_eq_true rfl) (Nat.le_of_ble_eq_true rfl) d_Holi_dueAfter_29 ?_
        refine lv_lstore (lv' := [(8, .long (mxl ((f i) * 86400) t)), (0, .ref h), (1, .long t), (5, .long (dA f t wi i)), (7, .int (nI i))]) hx hb d_Holi_dueAfter_32 hl (by decide) rfl (fun ls hl => ?_)
        refine lv_aload_n hx hb d_Holi_dueAfter_34 rfl (lv_at hl 1 rfl) ?_
        refine mm_get E hZ cl_Holi fl_Holi_9 (by decide) hh rfl d_Holi_dueAfter_35 ?_
        refine lv_iload hx hb d_Holi_dueAfter_38 (lv_at hl 4 rfl) ?_
        refine mm_lald (t0 := 1) E hZ hd rfl rfl (show i < 100 by omega) (by decide) d_Holi_dueAfter_40 ?_
        refine lv_ldc2 (v := 86400) hx hb E.2.2.1 (E.2.2.2.1 _ w_371) d_Holi_dueAfter_41 ?_
        refine lv_lmul hx hb d_Holi_dueAfter_44 ?_
        refine lv_ldc2 (v := 86400) hx hb E.2.2.1 (E.2.2.2.1 _ w_371) d_Holi_dueAfter_45 ?_
        refine lv_ladd hx hb d_Holi_dueAfter_48 ?_
        refine lv_lstore (lv' := [(10, .long (((f i) * 86400) + 86400)), (8, .long (mxl ((f i) * 86400) t)), (0, .ref h), (1, .long t), (5, .long (dA f t wi i)), (7, .int (nI i))]) hx hb d_Holi_dueAfter_49 hl (by decide) rfl (fun ls hl => ?_)
        refine lv_lload hx hb d_Holi_dueAfter_51 (lv_at hl 1 rfl) ?_
        refine lv_lload hx hb d_Holi_dueAfter_53 (lv_at hl 0 rfl) ?_
        refine W.lcmp hx hb d_Holi_dueAfter_55 ?_
        have J77 : ∀ (v : Int64) (ls : Array Slot), v = dA f t wi (i + 1) → lv_has ls 12 [(0, .ref h), (1, .long t), (5, .long v), (7, .int (nI i))] → W pG l eV (rk 1 23 0 0) s m args below meth cdx s.heap [] 0 0 Q (F0 m 77 ls []) := by
          intro v ls hv hl
          refine lv_iinc (v := (nI i) + 1) (lv' := [(7, .int ((nI i) + 1)), (0, .ref h), (1, .long t), (5, .long v)]) hx hb d_Holi_dueAfter_77 hl (k := 3) rfl rfl (by decide) rfl (fun ls hl => ?_)
          refine lv_goto (tgt := 8) hx hb d_Holi_dueAfter_80 (by decide) ?_
          rw [nI_1] at hl
          subst hv
          exact ih (i + 1) ls (by omega) (by omega) (lv_sub hl [1, 2, 3, 0] rfl)
        refine lv_if_ge (tgt := 77) hx hb d_Holi_dueAfter_56 (by decide) (fun c56 => ?_) (fun c56 => ?_)
        · have c56 := (lg_cmp_ge _ _).mp c56
          exact J77 _ ls (by rw [dA, if_neg (fun z => absurd z.1 (Int64.not_lt.mpr c56))]) (lv_sub hl [2, 3, 4, 5] rfl)
        · have c56 := mt (lg_cmp_ge _ _).mpr c56
          refine lv_lload hx hb d_Holi_dueAfter_59 (lv_at hl 1 rfl) ?_
          refine lv_lload hx hb d_Holi_dueAfter_61 (lv_at hl 4 rfl) ?_
          refine W.lcmp hx hb d_Holi_dueAfter_63 ?_
          refine lv_if_ge (tgt := 77) hx hb d_Holi_dueAfter_64 (by decide) (fun c64 => ?_) (fun c64 => ?_)
          · have c64 := (lg_cmp_ge _ _).mp c64
            exact J77 _ ls (by rw [dA, if_neg (fun z => absurd z.2 (Int64.not_lt.mpr c64))]) (lv_sub hl [2, 3, 4, 5] rfl)
          · have c64 := mt (lg_cmp_ge _ _).mpr c64
            refine lv_lload hx hb d_Holi_dueAfter_67 (lv_at hl 4 rfl) ?_
            refine lv_lload hx hb d_Holi_dueAfter_69 (lv_at hl 0 rfl) ?_
            refine lv_lload hx hb d_Holi_dueAfter_71 (lv_at hl 1 rfl) ?_
            refine lv_lsub hx hb d_Holi_dueAfter_73 ?_
            refine lv_ladd hx hb d_Holi_dueAfter_74 ?_
            refine lv_lstore (lv' := [(5, .long ((dA f t wi i) + ((((f i) * 86400) + 86400) - (mxl ((f i) * 86400) t)))), (10, .long (((f i) * 86400) + 86400)), (8, .long (mxl ((f i) * 86400) t)), (0, .ref h), (1, .long t), (7, .int (nI i))]) hx hb d_Holi_dueAfter_75 hl (by decide) rfl (fun ls hl => ?_)
            exact J77 _ ls (by rw [dA, if_pos ⟨Int64.not_le.mp c56, Int64.not_le.mp c64⟩]) (lv_sub hl [3, 4, 0, 5] rfl)
  exact loop (c + 1) 0 ls (Nat.zero_le _) (by omega) (lv_sub hl [2, 3, 1, 0] rfl)
