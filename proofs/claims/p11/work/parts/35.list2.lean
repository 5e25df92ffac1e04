/-! JAVA's ArrayList: add, and what it needs -/
theorem alN_pos {n : Nat} (h : 10 ≤ n) : alN n = n + n / 2 := if_neg (by omega)
theorem nI_half {n : Nat} (h : n < 2 ^ 31) : nI n >>> ((1 : Int32) &&& 31) = nI (n / 2) := by
  have k := pk_shrN (n := n) h ((1 : Int32) &&& 31) 1 (by decide)
  rw [Nat.pow_one] at k
  exact k
/-- what is behind a growing: the new array q holds what the old one held -/
def Gp (g : mm_G) (M0 M' : mm_M) (t la c n : Nat) (ad : Nat → Nat) (mo : Int32) (q : Nat) : Prop := M0 q = none ∧ M' la = some (ob t 10 [.int mo, .ref q, .int (nI c)]) ∧ (∃ f, M' q = some (aq t (g.2.2 4) (alN n) f) ∧ (∀ i, i < c → f i = some (ad i)) ∧ ∀ i, c ≤ i → f i = none) ∧ ∀ u, u ≠ t → mm_same u M0 M'
theorem mm_getC {p : Program} {l : Launch} {e : Env} {R : Room} {s : State} {m : MethodId} {args : Array Value} {below : List Frame} {meth : Method} {c : Code} {H : Heap} {locs : List Loc} {cells slots : Nat} {Q : State → Prop} {cc : ByteArray} {pc : Nat} {ls : Array Slot} {rest : List Value} {g : mm_G} {M : mm_M} {own : String} {a t n : Nat} {f : Nat → Option Nat} (E : mm_C g p s m args c cc own) (hZ : mm_S g s M H locs) {nL : Nat} (hml : c.maxLocals = nL) (hsz : ls.size = nL) {index : Nat} (hL : Cond.methodLink own index ⟨"java/lang/Object", "getClass", "()Ljava/lang/Class;"⟩ ∈ GW) (hM : M a = some (aq t (g.2.2 4) n f)) (hf : 1 ≤ R.frames) (hl : (rest.map fun v => v.category).sum + 14 ≤ R.locals) (hdg : decode cc pc = .ok (.invokevirtual index, 3))
    (kk : W p l e R s m args below meth c H locs cells slots Q (F0 m (pc + 3) ls (.ref (g_mi g) :: rest))) : W p l e R s m args below meth c H locs cells slots Q (F0 m pc ls (.ref a :: rest)) :=
  va_getC E.1 E.2.1 (hml.trans hsz.symm) E.2.2.1 (E.2.2.2.1 _ hL) (va_Nw.use rfl (E.2.2.2.2.2.1 _ w_790)) (E.2.2.2.1 _ w_789) (E.2.2.2.1 _ w_271) (E.2.2.2.1 _ w_285) E.2.2.2.2.2.2.2.2.1 ⟨_, (hZ.1.2 a _ hM).2, rfl, va_nmO (E.2.2.2.2.1.2 4 _ rfl).2 (by decide)⟩ hf hl hdg kk
set_option maxHeartbeats 4000000 in
set_option maxRecDepth 100000 in
theorem c_ASup_newLength (l : Launch) (g : mm_G) {M0 : mm_M} {n : Nat} (hn : 10 ≤ n) (hn2 : n < 2 ^ 20) : Ci l g y_ASup_newLength b_ASup_newLength 4 .int (rk 1 22 0 0) M0 [.int (nI n), .int (nI 1), .int (nI (n / 2))] (fun r M' => M' = M0 ∧ r = nI (n + n / 2)) := by
  refine mm_enter (by decide) (Nat.le_of_ble_eq_true rfl) (fun pG eV s m args below meth cdx ls Q E hml hr hlk hnm hZ hl eQ => ?_)
  have hx := E.1
  have hb := E.2.1
  have hl : lv_has ls 4 [(0, .int (nI n)), (1, .int (nI 1)), (2, .int (nI (n / 2)))] := hl
  refine lv_iload_n hx hb d_ASup_newLength_0 rfl (lv_at hl 0 rfl) ?_
  refine lv_iload_n hx hb d_ASup_newLength_1 rfl (lv_at hl 1 rfl) ?_
  refine lv_iload_n hx hb d_ASup_newLength_2 rfl (lv_at hl 2 rfl) ?_
  refine mm_max E hml hl.1 w_260 (Nat.le_of_ble_eq_true rfl) (Nat.le_of_ble_eq_true rfl) (Nat.le_of_ble_eq_true rfl) (Nat.le_of_ble_eq_true rfl) d_ASup_newLength_3 ?_
  rw [if_pos (show nI 1 < nI (n / 2) from nI_lt (by omega) (by omega))]
  refine lv_iadd hx hb d_ASup_newLength_6 ?_
  rw [nI_add]
  refine lv_istore_n (lv' := [(3, .int (nI (n + n / 2))), (0, .int (nI n)), (1, .int (nI 1)), (2, .int (nI (n / 2)))]) hx hb d_ASup_newLength_7 rfl hl (by decide) rfl (fun ls hl => ?_)
  refine lv_iconst (v := 0) hx hb d_ASup_newLength_8 (by decide) ?_
  refine lv_iload_n hx hb d_ASup_newLength_9 rfl (lv_at hl 0 rfl) ?_
  refine lv_icmp_ge (tgt := 21) hx hb d_ASup_newLength_10 (by decide) (fun c10 => ?_) (fun c10 => ?_)
  · exact absurd (show nI (n + n / 2) ≤ nI 0 from c10) (nI_ge (by omega) (by omega))
  · refine lv_iload_n hx hb d_ASup_newLength_13 rfl (lv_at hl 0 rfl) ?_
    refine lv_ldc (v := 2147483639) hx hb E.2.2.1 (E.2.2.2.1 _ w_263) d_ASup_newLength_14 ?_
    refine lv_icmp_gt (tgt := 21) hx hb d_ASup_newLength_16 (by decide) (fun c16 => ?_) (fun c16 => ?_)
    · exact absurd (show nI 2147483639 < nI (n + n / 2) from c16) (nI_nlt (by omega) (by decide))
    · refine lv_iload_n hx hb d_ASup_newLength_19 rfl (lv_at hl 0 rfl) ?_
      exact mm_iret (v := nI (n + n / 2)) E hr hlk eQ hZ d_ASup_newLength_20 ⟨_, rfl, rfl, rfl⟩
theorem if_neg_le {x y : Int32} (h : ¬ x < y) : (if x < y then x else y) = y := if_neg h
set_option maxHeartbeats 4000000 in
set_option maxRecDepth 100000 in
theorem c_Arrs_copyOf3 (l : Launch) (g : mm_G) {M0 : mm_M} {ea t n N : Nat} {f : Nat → Option Nat} (hea : M0 ea = some (aq t (g.2.2 4) n f)) (ht : t ≠ 0) (hnN : n ≤ N) (hN2 : N < 2 ^ 21) (hel : ∀ i, i < n → ∀ y, f i = some y → ∃ (tv ci : Nat) (vs : List Value) (r : vw_C), M0 y = some (ob tv ci vs) ∧ classes[ci]? = some r ∧ Cond.castable r.1 "java/lang/Object" ∈ NW) : Cq l g y_Arrs_copyOf3 b_Arrs_copyOf3 4 (.array (.object "java/lang/Object")) (rk 1 40 1 N) M0 [.ref ea, .int (nI N), .ref (g_mi g)] (fun r M' => ∃ q, M0 q = none ∧ r = some q ∧ M' = mm_up M0 q (aq t (g.2.2 4) N (va_cpy f (fun _ => none) 0 0 n))) := by
  refine mm_enter (by decide) (Nat.le_of_ble_eq_true rfl) (fun pG eV s m args below meth cdx ls Q E hml hr hlk hnm hZ hl eQ => ?_)
  have hx := E.1
  have hb := E.2.1
  have hl : lv_has ls 4 [(0, .ref ea), (1, .int (nI N)), (2, .ref (g_mi g))] := hl
  refine lv_aload_n hx hb d_Arrs_copyOf3_0 rfl (lv_at hl 2 rfl) ?_
  refine mm_mirr E w_289 d_Arrs_copyOf3_1 ?_
  refine lv_acmp_ne (rx := some (g_mi g)) (ry := some (g_mi g)) (tgt := 13) hx hb d_Arrs_copyOf3_3 (by decide) (fun z => absurd rfl z) (fun _ => ?_)
  refine lv_iload_n hx hb d_Arrs_copyOf3_6 rfl (lv_at hl 1 rfl) ?_
  refine mm_newq t (t0 := 4) (cA := g.2.2 4) (N := N) E hZ rfl w_291 E.2.2.2.2.2.2.2.1 (nI_pos (by omega)) (nI_clamp (by omega)) (by omega) (Nat.le_of_ble_eq_true rfl) (by show 0 + N ≤ N; omega) d_Arrs_copyOf3_7 (fun q H hB hq hZ => ?_)
  obtain ⟨Ma, eMa⟩ : ∃ zz : mm_M, zz = mm_up M0 q (aq t (g.2.2 4) N (fun _ => none)) := ⟨_, rfl⟩
  rw [← eMa] at hZ
  have hqa := (congrFun eMa q).trans (mm_self _ _ _)
  have heb := (congrFun eMa ea).trans ((mm_ne _ _ (mm_apartN hea hq)).trans hea)
  refine lv_goto (tgt := 24) hx hb d_Arrs_copyOf3_10 (by decide) ?_
  refine lv_astore_n (lv' := [(3, .ref q), (0, .ref ea), (1, .int (nI N)), (2, .ref (g_mi g))]) hx hb d_Arrs_copyOf3_24 rfl hl (by decide) rfl (fun ls hl => ?_)
  refine lv_aload_n hx hb d_Arrs_copyOf3_25 rfl (lv_at hl 1 rfl) ?_
  refine lv_iconst (v := 0) hx hb d_Arrs_copyOf3_26 (by decide) ?_
  refine lv_aload_n hx hb d_Arrs_copyOf3_27 rfl (lv_at hl 0 rfl) ?_
  refine lv_iconst (v := 0) hx hb d_Arrs_copyOf3_28 (by decide) ?_
  refine lv_aload_n hx hb d_Arrs_copyOf3_29 rfl (lv_at hl 1 rfl) ?_
  refine mm_alen (t0 := 4) E hZ heb rfl rfl d_Arrs_copyOf3_30 ?_
  show W pG l eV _ s m args below meth cdx _ _ _ _ Q (F0 m 31 ls [.int (nI n), .int 0, .ref q, .int 0, .ref ea])
  refine lv_iload_n hx hb d_Arrs_copyOf3_31 rfl (lv_at hl 2 rfl) ?_
  refine mm_min E hml hl.1 w_292 (Nat.le_of_ble_eq_true rfl) (Nat.le_of_ble_eq_true rfl) (Nat.le_refl _) (by show 0 + N ≤ N; omega) d_Arrs_copyOf3_32 ?_
  rw [if_neg_le (show ¬ nI N < nI n from nI_nlt hnN (by omega))]
  refine mm_copy E hZ hml hl.1 w_295 w_297 w_296 w_16 heb hqa (t0 := 4) rfl ht rfl (Nat.le_refl n) hnN (by omega) (fun i hi y hy => by
    obtain ⟨tv, ci, vs, r, q1, q2, q3⟩ := hel i hi y hy
    exact ⟨tv, ci, vs, r, (congrFun eMa y).trans ((mm_ne _ _ (mm_apartN q1 hq)).trans q1), q2, q3⟩) (Nat.le_of_ble_eq_true rfl) (Nat.le_of_ble_eq_true rfl) d_Arrs_copyOf3_35 (fun H locs hZ => ?_)
  refine lv_aload_n hx hb d_Arrs_copyOf3_38 rfl (lv_at hl 0 rfl) ?_
  refine W.widen (k := 1) (n := N) (Nat.le_refl _) (by omega) ?_
  exact mm_aret (v := some q) E hr (Or.inr ⟨_, rfl⟩) hlk eQ hZ d_Arrs_copyOf3_39 ⟨_, rfl, q, hq, rfl, by rw [eMa, mm_uu]⟩
set_option maxHeartbeats 4000000 in
set_option maxRecDepth 100000 in
theorem c_Arrs_copyOf2 (l : Launch) (g : mm_G) {M0 : mm_M} {ea t n N : Nat} {f : Nat → Option Nat} (hea : M0 ea = some (aq t (g.2.2 4) n f)) (ht : t ≠ 0) (hnN : n ≤ N) (hN2 : N < 2 ^ 21) (hel : ∀ i, i < n → ∀ y, f i = some y → ∃ (tv ci : Nat) (vs : List Value) (r : vw_C), M0 y = some (ob tv ci vs) ∧ classes[ci]? = some r ∧ Cond.castable r.1 "java/lang/Object" ∈ NW) : Cq l g y_Arrs_copyOf2 b_Arrs_copyOf2 2 (.array (.object "java/lang/Object")) (rk 2 63 1 N) M0 [.ref ea, .int (nI N)] (fun r M' => ∃ q, M0 q = none ∧ r = some q ∧ M' = mm_up M0 q (aq t (g.2.2 4) N (va_cpy f (fun _ => none) 0 0 n))) := by
  refine mm_enter (by decide) (Nat.le_of_ble_eq_true rfl) (fun pG eV s m args below meth cdx ls Q E hml hr hlk hnm hZ hl eQ => ?_)
  have hx := E.1
  have hb := E.2.1
  have hl : lv_has ls 2 [(0, .ref ea), (1, .int (nI N))] := hl
  refine lv_aload_n hx hb d_Arrs_copyOf2_0 rfl (lv_at hl 0 rfl) ?_
  refine lv_iload_n hx hb d_Arrs_copyOf2_1 rfl (lv_at hl 1 rfl) ?_
  refine lv_aload_n hx hb d_Arrs_copyOf2_2 rfl (lv_at hl 0 rfl) ?_
  refine mm_getC E hZ hml hl.1 w_270 hea (Nat.le_of_ble_eq_true rfl) (Nat.le_of_ble_eq_true rfl) d_Arrs_copyOf2_3 ?_
  refine mm_callq (mm_runS (As := [.ref ea, .int (nI N), .ref (g_mi g)]) (rest := []) E hZ hml hl.1 lk_Arrs_300 me_Arrs_copyOf3 st_Arrs_copyOf3 (c_Arrs_copyOf3 l g hea ht hnN hN2 hel) ⟨Nat.le_of_ble_eq_true rfl, Nat.le_of_ble_eq_true rfl⟩ rfl (Nat.le_of_ble_eq_true rfl) d_Arrs_copyOf2_6 ⟨Nat.le_of_ble_eq_true rfl, by show 0 + N ≤ N; omega⟩) hZ (fun rq M1 H locs hp hZ => ?_)
  obtain ⟨q, hq, rfl, hM⟩ := hp
  refine W.widen (k := 1) (n := N) (Nat.le_of_ble_eq_true rfl) (by show 0 + N ≤ N; omega) ?_
  exact mm_aret (v := (some q)) E hr (Or.inr ⟨_, rfl⟩) hlk eQ hZ d_Arrs_copyOf2_9 ⟨_, rfl, q, hq, rfl, hM⟩
