/-! THE REFERENCE's STATE: the outcomes of an event -/
theorem up2_k {α : Type} (I : Nat → Nat → α) (k j : Nat) (x : α) : up2 I k j x k = va_up (I k) j x := va_up_self _ _ _
section RI5
variable {I : Nat → Nat → Int32} {L : Nat → Nat → Int64} {S : Nat → Int32} {m nr nf na : Nat} {cn bg lt wi fw : Nat → Nat}
theorem RI.evD (h : RI I L S m nr nf na cn bg lt wi fw) {j : Nat} (hj : j < 200) {tt : Nat} (htt : tt ≤ 1000000000) {v : Nat} (hv : v ≤ 4) (z : Nat) (d : Int32) : RI (up2 (up2 (up2 (rEnd I j) 23 z d) 22 v (nI (cn v + 1))) 7 j (-1)) (evL I L j (lN tt)) (va_up S 0 0) (m + 1) nr nf na (va_up cn v (cn v + 1)) bg lt wi fw := by
  have h1 := (h.ev hj htt (-1)).dlv (v := v) ((h.2.2.2.2.1 v hv).2)
  refine h1.oth (fun k hk => ?_) ⟨rfl, rfl⟩
  rcases hk with rfl | rfl | rfl | rfl | rfl | rfl | rfl | rfl
  · rw [up2_f _ _ _ (by decide), up2_f _ _ _ (by decide), up2_f _ _ _ (by decide), up2_f _ _ _ (by decide), up2_f _ _ _ (by decide)]
  · rw [up2_f _ _ _ (by decide), up2_k, up2_k, up2_f _ _ _ (by decide), up2_f _ _ _ (by decide)]
  · rw [up2_f _ _ _ (by decide), up2_f _ _ _ (by decide), up2_f _ _ _ (by decide), up2_f _ _ _ (by decide), up2_f _ _ _ (by decide)]
  · rw [up2_f _ _ _ (by decide), up2_f _ _ _ (by decide), up2_f _ _ _ (by decide), up2_f _ _ _ (by decide), up2_f _ _ _ (by decide)]
  · rw [up2_f _ _ _ (by decide), up2_f _ _ _ (by decide), up2_f _ _ _ (by decide), up2_f _ _ _ (by decide), up2_f _ _ _ (by decide)]
  · rw [up2_f _ _ _ (by decide), up2_f _ _ _ (by decide), up2_f _ _ _ (by decide), up2_f _ _ _ (by decide), up2_f _ _ _ (by decide)]
  · rw [up2_f _ _ _ (by decide), up2_f _ _ _ (by decide), up2_f _ _ _ (by decide), up2_f _ _ _ (by decide), up2_f _ _ _ (by decide)]
  · rw [up2_k, up2_f _ _ _ (by decide), up2_f _ _ _ (by decide), up2_f _ _ _ (by decide), up2_k]
theorem RI.evF (h : RI I L S m nr nf na cn bg lt wi fw) {j : Nat} (hj : j < 200) {tt : Nat} (htt : tt ≤ 1000000000) (x : Int32) {k : Nat} (hk1 : 1 ≤ k) (hk2 : k ≤ nr) (hno : ¬ ∃ z, z < nf ∧ I 25 z = nI k) : RI (up2 (up2 (rEnd I j) 7 j x) 25 nf (nI k)) (evL I L j (lN tt)) (va_up (va_up S 0 0) 24 (nI (nf + 1))) (m + 1) nr (nf + 1) na cn bg lt wi (va_up fw nf k) := by
  have e : up2 (rEnd I j) 7 j x 25 = I 25 := by rw [up2_f _ _ _ (by decide)]; exact rEnd_f I j ⟨by decide, by decide, by decide⟩
  exact (h.ev hj htt x).fls hk1 hk2 (by rw [e]; exact hno)
theorem RI.evB (h : RI I L S m nr nf na cn bg lt wi fw) {j : Nat} (hj : j < 200) {tt : Nat} (htt : tt ≤ 1000000000) (x : Int32) (k : Nat) {p : Nat} (hp : p < 50) (d : Int64) : RI (up2 (up2 (up2 (up2 (rEnd I j) 7 j x) 10 j (nI k)) 11 j (nI p)) 20 p (nI (bg p + 1))) (up2 (evL I L j (lN tt)) 12 j d) (va_up S 0 0) (m + 1) nr nf na cn (va_up bg p (bg p + 1)) lt wi fw :=
  ((h.ev hj htt x).beg (k := k) hj hp ((h.2.2.2.2.2.1 p hp).2.2.1)).oth (fun _ _ => rfl) ⟨up2_f _ _ _ (by decide), up2_f _ _ _ (by decide)⟩
end RI5
