/-! FRAMES: what a call leaves as it was -/
theorem su16 (S : Nat → Int32) (k : Nat) (x : Int32) (h : 16 ≠ k) : va_up S k x 16 = S 16 := va_up_ne S x h
section FR
variable {X X' : XV} {Y Y' : RV} {r : Int32} {t : Int64}
theorem oXevent_f {i st pl sv : Int32} (h : oXevent i st pl sv t X r X') : X'.c = X.c ∧ X'.ch = X.ch ∧ X'.fh = X.fh ∧ X'.ct = X.ct ∧ X'.F = X.F ∧ X'.fl = X.fl ∧ X'.ck = X.ck := by
  rcases h with ⟨_, _, rfl⟩ | ⟨_, _, _, _, _, _, (⟨_, _, rfl⟩ | ⟨_, (⟨_, _, _, _, _, rfl⟩ | ⟨_, _, _, rfl⟩ | ⟨_, _, _, _, _, (⟨_, _, (⟨_, rfl⟩ | ⟨_, rfl⟩)⟩ | ⟨_, _, rfl⟩)⟩)⟩)⟩ <;> exact ⟨rfl, rfl, rfl, rfl, rfl, rfl, rfl⟩
theorem oMevent_f {i st pl sv : Int32} (h : oMevent i st pl sv t Y r Y') : Y'.nr = Y.nr ∧ Y'.na = Y.na ∧ Y'.ck = Y.ck ∧ Y'.wi = Y.wi ∧ Y'.lt = Y.lt ∧ Y'.S 16 = Y.S 16 ∧ (Y'.I 2 = Y.I 2 ∧ Y'.I 3 = Y.I 3 ∧ Y'.I 4 = Y.I 4 ∧ Y'.I 6 = Y.I 6 ∧ Y'.I 15 = Y.I 15 ∧ Y'.I 21 = Y.I 21) ∧ Y'.L 5 = Y.L 5 ∧ Y'.L 19 = Y.L 19 := by
  rcases h with ⟨_, _, rfl⟩ | ⟨_, _, _, _, _, _, (⟨_, _, rfl⟩ | ⟨_, _, _, _, _, _, _, _, _, _, (⟨_, _, rfl⟩ | ⟨_, _, _, _, (⟨_, _, rfl⟩ | ⟨_, _, _, (⟨_, rfl⟩ | ⟨_, rfl⟩)⟩ | ⟨_, _, _, rfl⟩)⟩)⟩)⟩
  all_goals refine ⟨rfl, rfl, rfl, rfl, rfl, ?_, ⟨?_, ?_, ?_, ?_, ?_, ?_⟩, ?_, ?_⟩
  all_goals first | rfl | (repeat rw [va_up_ne _ _ (by decide)]) | skip
  all_goals first | rfl | (repeat rw [up2_f _ _ _ (by decide)])
theorem oXtick_f (h : oXtick t X r X') : X'.c = X.c ∧ X'.cf = X.cf ∧ X'.R = X.R ∧ X'.fr = X.fr ∧ X'.ch = X.ch ∧ X'.fh = X.fh ∧ X'.cd = X.cd ∧ X'.fd = X.fd ∧ X'.fs = X.fs ∧ X'.fb = X.fb := by
  rcases h with ⟨_, _, rfl⟩ | ⟨_, _, _, _, _, rfl⟩ <;> exact ⟨rfl, rfl, rfl, rfl, rfl, rfl, rfl, rfl, rfl, rfl⟩
theorem rLate_f (ck : Int64) (i : Nat) (s : rSt) : (∀ k, k ≠ 13 → k ≠ 14 → k ≠ 21 → (rLate ck i s).1 k = s.1 k) ∧ ∀ k, k ≠ 19 → (rLate ck i s).2.1 k = s.2.1 k := by
  unfold rLate
  split
  · refine ⟨fun k h1 h2 h3 => ?_, fun k hk => ?_⟩
    · show up2 (up2 s.1 13 i 1) 21 _ _ k = s.1 k
      rw [up2_f _ _ _ h3, up2_f _ _ _ h1]
    · exact tellL_f _ _ _ _ _ hk
  · exact ⟨fun _ _ _ _ => rfl, fun _ _ => rfl⟩
theorem rLost_f (ck : Int64) (i : Nat) (s : rSt) : (∀ k, k ≠ 13 → k ≠ 14 → k ≠ 21 → (rLost ck i s).1 k = s.1 k) ∧ ∀ k, k ≠ 19 → (rLost ck i s).2.1 k = s.2.1 k := by
  unfold rLost
  split
  · refine ⟨fun k h1 h2 h3 => ?_, fun k hk => ?_⟩
    · show up2 s.1 14 i 1 k = s.1 k
      rw [up2_f _ _ _ h2]
    · exact tellL_f _ _ _ _ _ hk
  · exact ⟨fun _ _ _ _ => rfl, fun _ _ => rfl⟩
theorem rTk_f (ck : Int64) (s : rSt) : ∀ i, (∀ k, k ≠ 13 → k ≠ 14 → k ≠ 21 → (rTk ck s i).1 k = s.1 k) ∧ ∀ k, k ≠ 19 → (rTk ck s i).2.1 k = s.2.1 k
  | 0 => ⟨fun _ _ _ _ => rfl, fun _ _ => rfl⟩
  | i + 1 => by
    have h := rTk_f ck s i
    have h1 := rLate_f ck i (rTk ck s i)
    have h2 := rLost_f ck i (rLate ck i (rTk ck s i))
    exact ⟨fun k a b c => ((h2.1 k a b c).trans (h1.1 k a b c)).trans (h.1 k a b c), fun k a => ((h2.2 k a).trans (h1.2 k a)).trans (h.2 k a)⟩
theorem oMtick_f (h : oMtick t Y r Y') : Y'.nr = Y.nr ∧ Y'.nf = Y.nf ∧ Y'.cn = Y.cn ∧ Y'.bg = Y.bg ∧ Y'.wi = Y.wi ∧ Y'.S 16 = Y.S 16 ∧ (∀ k, k ≠ 13 → k ≠ 14 → k ≠ 21 → Y'.I k = Y.I k) ∧ ∀ k, k ≠ 19 → Y'.L k = Y.L k := by
  rcases h with ⟨_, _, rfl⟩ | ⟨_, s, lt2, hs, _, rfl⟩
  · exact ⟨rfl, rfl, rfl, rfl, rfl, su16 Y.S 0 0 (by decide), fun _ _ _ _ => rfl, fun _ _ => rfl⟩
  · have hf := rTk_f t (Y.I, Y.L, Y.na) 200
    rw [← hs] at hf
    exact ⟨rfl, rfl, rfl, rfl, rfl, (su16 (va_up Y.S 0 0) 18 (nI s.2.2) (by decide)).trans (su16 Y.S 0 0 (by decide)), hf.1, hf.2⟩
theorem oXhol_f (h : oXhol t X r X') : X'.c = X.c ∧ X'.cf = X.cf ∧ X'.R = X.R ∧ X'.fr = X.fr ∧ X'.cd = X.cd ∧ X'.fd = X.fd ∧ X'.fs = X.fs ∧ X'.fb = X.fb ∧ X'.fl = X.fl ∧ X'.v = X.v ∧ X'.ct = X.ct ∧ X'.F = X.F ∧ X'.ck = X.ck := by
  rcases h with ⟨_, _, rfl⟩ | ⟨_, (⟨_, _, rfl⟩ | ⟨_, _, _, rfl⟩ | ⟨_, _, _, _, _, rfl⟩)⟩ <;> exact ⟨rfl, rfl, rfl, rfl, rfl, rfl, rfl, rfl, rfl, rfl, rfl, rfl, rfl⟩
theorem oMhol_f (h : oMhol t Y r Y') : Y'.nr = Y.nr ∧ Y'.nf = Y.nf ∧ Y'.na = Y.na ∧ Y'.cn = Y.cn ∧ Y'.bg = Y.bg ∧ Y'.lt = Y.lt ∧ Y'.wi = Y.wi ∧ Y'.fw = Y.fw ∧ Y'.L = Y.L ∧ Y'.ck = Y.ck ∧ ∀ k, k ≠ 15 → Y'.I k = Y.I k := by
  rcases h with ⟨_, _, rfl⟩ | ⟨_, _, _, _, _, (⟨_, _, rfl⟩ | ⟨_, _, _, rfl⟩ | ⟨_, _, _, rfl⟩)⟩
  · exact ⟨rfl, rfl, rfl, rfl, rfl, rfl, rfl, rfl, rfl, rfl, fun _ _ => rfl⟩
  · exact ⟨rfl, rfl, rfl, rfl, rfl, rfl, rfl, rfl, rfl, rfl, fun _ _ => rfl⟩
  · exact ⟨rfl, rfl, rfl, rfl, rfl, rfl, rfl, rfl, rfl, rfl, fun _ _ => rfl⟩
  · exact ⟨rfl, rfl, rfl, rfl, rfl, rfl, rfl, rfl, rfl, rfl, fun k hk => up2_f _ _ _ hk⟩
theorem oXrule_f {st pl sv : Int32} {wi : Int64} {fl : Int32} (h : oXrule st pl sv wi fl X r X') : X'.cf = X.cf ∧ X'.fr = X.fr ∧ X'.ch = X.ch ∧ X'.fh = X.fh ∧ X'.cd = X.cd ∧ X'.fd = X.fd ∧ X'.fs = X.fs ∧ X'.fb = X.fb ∧ X'.fl = X.fl ∧ X'.v = X.v ∧ X'.ct = X.ct ∧ X'.F = X.F ∧ X'.ck = X.ck := by
  rcases h with ⟨_, _, rfl⟩ | ⟨_, _, _, rfl⟩ | ⟨_, _, _, _, rfl⟩ <;> exact ⟨rfl, rfl, rfl, rfl, rfl, rfl, rfl, rfl, rfl, rfl, rfl, rfl, rfl⟩
theorem oMrule_f {st pl sv : Int32} {wi : Int64} {fl : Int32} (h : oMrule st pl sv wi fl Y r Y') : Y'.nf = Y.nf ∧ Y'.na = Y.na ∧ Y'.cn = Y.cn ∧ Y'.bg = Y.bg ∧ Y'.lt = Y.lt ∧ Y'.fw = Y.fw ∧ Y'.ck = Y.ck ∧ Y'.S 16 = Y.S 16 ∧ (∀ k, k ≠ 2 → k ≠ 3 → k ≠ 4 → k ≠ 6 → Y'.I k = Y.I k) ∧ ∀ k, k ≠ 5 → Y'.L k = Y.L k := by
  rcases h with ⟨_, _, rfl⟩ | ⟨_, _, _, rfl⟩ | ⟨_, _, _, _, _, rfl⟩
  · exact ⟨rfl, rfl, rfl, rfl, rfl, rfl, rfl, su16 Y.S 0 0 (by decide), fun _ _ _ _ _ => rfl, fun _ _ => rfl⟩
  · exact ⟨rfl, rfl, rfl, rfl, rfl, rfl, rfl, su16 Y.S 0 0 (by decide), fun _ _ _ _ _ => rfl, fun _ _ => rfl⟩
  · refine ⟨rfl, rfl, rfl, rfl, rfl, rfl, rfl, (su16 (va_up Y.S 0 0) 1 (nI (Y.nr + 1)) (by decide)).trans (su16 Y.S 0 0 (by decide)), fun k a b c d => ?_, fun k a => up2_f _ _ _ a⟩
    show up2 (up2 (up2 (up2 Y.I 2 (Y.nr + 1) st) 3 (Y.nr + 1) pl) 4 (Y.nr + 1) sv) 6 (Y.nr + 1) fl k = Y.I k
    rw [up2_f _ _ _ d, up2_f _ _ _ c, up2_f _ _ _ b, up2_f _ _ _ a]
theorem oXfound_f {i : Int32} (h : oXfound i t X r X') : X'.c = X.c ∧ X'.cf = X.cf ∧ X'.R = X.R ∧ X'.fr = X.fr ∧ X'.ch = X.ch ∧ X'.fh = X.fh ∧ X'.cd = X.cd ∧ X'.fd = X.fd ∧ X'.fs = X.fs ∧ X'.fb = X.fb ∧ X'.fl = X.fl ∧ X'.ct = X.ct ∧ X'.F = X.F ∧ X'.ck = X.ck := by
  rcases h with ⟨_, _, rfl⟩ | ⟨_, _, _, (⟨_, _, rfl⟩ | ⟨_, _, _, rfl⟩ | ⟨_, _, _, rfl⟩)⟩ <;> exact ⟨rfl, rfl, rfl, rfl, rfl, rfl, rfl, rfl, rfl, rfl, rfl, rfl, rfl, rfl⟩
theorem oMfound_f {i : Int32} (h : oMfound i t Y r Y') : Y'.nr = Y.nr ∧ Y'.nf = Y.nf ∧ Y'.na = Y.na ∧ Y'.cn = Y.cn ∧ Y'.bg = Y.bg ∧ Y'.lt = Y.lt ∧ Y'.wi = Y.wi ∧ Y'.fw = Y.fw ∧ Y'.ck = Y.ck ∧ Y'.S 16 = Y.S 16 ∧ (∀ k, k ≠ 10 → k ≠ 13 → k ≠ 14 → Y'.I k = Y.I k) ∧ ∀ k, k ≠ 9 → Y'.L k = Y.L k := by
  rcases h with ⟨_, _, rfl⟩ | ⟨_, _, _, (⟨_, _, rfl⟩ | ⟨_, _, _, rfl⟩ | ⟨_, _, _, rfl⟩)⟩
  · exact ⟨rfl, rfl, rfl, rfl, rfl, rfl, rfl, rfl, rfl, su16 Y.S 0 0 (by decide), fun _ _ _ _ => rfl, fun _ _ => rfl⟩
  · exact ⟨rfl, rfl, rfl, rfl, rfl, rfl, rfl, rfl, rfl, su16 Y.S 0 0 (by decide), fun _ _ _ _ => rfl, fun _ _ => rfl⟩
  · exact ⟨rfl, rfl, rfl, rfl, rfl, rfl, rfl, rfl, rfl, su16 Y.S 0 0 (by decide), fun _ _ _ _ => rfl, fun _ _ => rfl⟩
  · exact ⟨rfl, rfl, rfl, rfl, rfl, rfl, rfl, rfl, rfl, su16 Y.S 0 0 (by decide), fun k a b c => rEnd_f Y.I _ ⟨a, b, c⟩, fun k a => up2_f _ _ _ a⟩
end FR
theorem s0_f (Y : RV) : (RV.s0 Y).I = Y.I ∧ (RV.s0 Y).L = Y.L ∧ (RV.s0 Y).S 16 = Y.S 16 ∧ (RV.s0 Y).nr = Y.nr ∧ (RV.s0 Y).nf = Y.nf := ⟨rfl, rfl, su16 Y.S 0 0 (by decide), rfl, rfl⟩
theorem oMshare_f {i sd : Int32} {r : Int64} {Y Y' : RV} (h : oMshare i sd Y r Y') : Y'.I = Y.I ∧ Y'.L = Y.L ∧ Y'.S 16 = Y.S 16 ∧ Y'.nr = Y.nr ∧ Y'.nf = Y.nf ∧ Y'.na = Y.na ∧ Y'.cn = Y.cn ∧ Y'.bg = Y.bg ∧ Y'.lt = Y.lt ∧ Y'.wi = Y.wi ∧ Y'.fw = Y.fw ∧ Y'.ck = Y.ck := by
  rcases h with ⟨_, _, rfl⟩ | ⟨_, _, _, (⟨_, _, rfl⟩ | ⟨_, _, _, rfl⟩ | ⟨_, _, _, rfl⟩)⟩
  · exact ⟨rfl, rfl, su16 Y.S 0 0 (by decide), rfl, rfl, rfl, rfl, rfl, rfl, rfl, rfl, rfl⟩
  · exact ⟨rfl, rfl, su16 Y.S 0 0 (by decide), rfl, rfl, rfl, rfl, rfl, rfl, rfl, rfl, rfl⟩
  · exact ⟨rfl, rfl, (su16 (va_up Y.S 0 0) 0 1 (by decide)).trans (su16 Y.S 0 0 (by decide)), rfl, rfl, rfl, rfl, rfl, rfl, rfl, rfl, rfl⟩
  · exact ⟨rfl, rfl, su16 Y.S 0 0 (by decide), rfl, rfl, rfl, rfl, rfl, rfl, rfl, rfl, rfl⟩
