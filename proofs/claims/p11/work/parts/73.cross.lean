/-! WHAT BINDS THE TWO: the whole state -/
def Cr (X : XV) (Y : RV) : Prop := CrF X Y
abbrev e_rule (_ _ : Int32) : Prop := True
abbrev e_event (_ _ : Int32) : Prop := True
abbrev e_tick (_ _ : Int32) : Prop := True
abbrev e_alarm (_ _ : Int32) : Prop := True
abbrev e_state (_ _ : Int32) : Prop := True
abbrev e_hol (_ _ : Int32) : Prop := True
abbrev e_perc (_ _ : Int64) : Prop := True
abbrev e_found (_ _ : Int32) : Prop := True
abbrev e_cluster (a b : Int32) : Prop := a = b
abbrev e_failing (_ _ : Int32) : Prop := True
abbrev e_share (_ : Int32) (_ _ : Int64) (_ : Int32) : Prop := True
section KP
variable {m : Nat} {X X' : XV} {Y Y' : RV} {r1 r2 : Int32} {s1 s2 : Int64}
theorem k_rule (hC : X.ci m) (hR : Y.ri m) (h : Cr X Y) {st pl sv : Int32} {wi : Int64} {fl : Int32} (h1 : oXrule st pl sv wi fl X r1 X') (h2 : oMrule st pl sv wi fl Y r2 Y') : Cr X' Y' ∧ e_rule r1 r2 := ⟨(f_rule hC hR h h1 h2).1, by first | exact (f_rule hC hR h h1 h2).2 | exact trivial⟩
theorem k_event (_ : m < 512) (hC : X.ci m) (hR : Y.ri m) (h : Cr X Y) {i st pl sv : Int32} {t : Int64} (h1 : oXevent i st pl sv t X r1 X') (h2 : oMevent i st pl sv t Y r2 Y') : Cr X' Y' ∧ e_event r1 r2 := ⟨(f_event hC hR h h1 h2).1, by first | exact (f_event hC hR h h1 h2).2 | exact trivial⟩
theorem k_tick (_ : X.ci m) (_ : Y.ri m) (h : Cr X Y) {t : Int64} (h1 : oXtick t X r1 X') (h2 : oMtick t Y r2 Y') : Cr X' Y' ∧ e_tick r1 r2 := ⟨f_tick h h1 h2, trivial⟩
theorem k_alarm (_ : X.ci m) (hR : Y.ri m) (h : Cr X Y) {i u : Int32} (h1 : oXalarm i u X r1 X') (h2 : oMalarm i u Y r2 Y') : Cr X' Y' ∧ e_alarm r1 r2 := by
  refine ⟨?_, by first | exact q_alarm h h1 h2 | exact trivial⟩
  obtain ⟨rfl, _⟩ := h1; obtain ⟨rfl, _⟩ := h2; exact h.s0
theorem k_state (_ : X.ci m) (_ : Y.ri m) (h : Cr X Y) {i : Int32} (h1 : oXstate i X r1 X') (h2 : oMstate i Y r2 Y') : Cr X' Y' ∧ e_state r1 r2 := by
  refine ⟨?_, by first | exact q_state h h1 h2 | exact trivial⟩
  obtain ⟨rfl, _⟩ := h1; obtain ⟨rfl, _⟩ := h2; exact h.s0
theorem k_hol (hC : X.ci m) (_ : Y.ri m) (h : Cr X Y) {t : Int64} (h1 : oXhol t X r1 X') (h2 : oMhol t Y r2 Y') : Cr X' Y' ∧ e_hol r1 r2 := ⟨(f_hol hC h h1 h2).1, by first | exact (f_hol hC h h1 h2).2 | exact trivial⟩
theorem k_perc (_ : m ≤ 512) (_ : X.ci m) (_ : Y.ri m) (h : Cr X Y) {i u : Int32} (h1 : oXperc i u X s1 X') (h2 : oMperc i u Y s2 Y') : Cr X' Y' ∧ e_perc s1 s2 := by
  refine ⟨?_, trivial⟩
  obtain ⟨rfl, _⟩ := h1; obtain ⟨rfl, _⟩ := h2; exact h.s0
theorem k_found (_ : X.ci m) (hR : Y.ri m) (h : Cr X Y) {i : Int32} {t : Int64} (h1 : oXfound i t X r1 X') (h2 : oMfound i t Y r2 Y') : Cr X' Y' ∧ e_found r1 r2 := ⟨(f_found hR h h1 h2).1, by first | exact (f_found hR h h1 h2).2 | exact trivial⟩
theorem k_cluster (hm : m ≤ 512) (hC : X.ci m) (hR : Y.ri m) (h : Cr X Y) {i u : Int32} (h1 : oXcluster i u X r1 X') (h2 : oMcluster i u Y r2 Y') : Cr X' Y' ∧ e_cluster r1 r2 := by
  refine ⟨?_, q_cluster hm hR h h1 h2⟩
  obtain ⟨rfl, _⟩ := h1; obtain ⟨rfl, _⟩ := h2; exact h.s0
theorem k_failing (hC : X.ci m) (hR : Y.ri m) (h : Cr X Y) {i : Int32} (h1 : oXfailing i X r1 X') (h2 : oMfailing i Y r2 Y') : Cr X' Y' ∧ e_failing r1 r2 := by
  refine ⟨?_, by first | exact q_failing hC hR h h1 h2 | exact trivial⟩
  obtain ⟨rfl, _⟩ := h1; obtain ⟨rfl, _⟩ := h2; exact h.s0
theorem k_share (hm : m ≤ 512) (_ : X.ci m) (hR : Y.ri m) (h : Cr X Y) {i sd : Int32} (h1 : oXshare i sd X r1 s1) (h2 : oMshare i sd Y s2 Y') : Cr X Y' ∧ e_share r1 s1 s2 (Y'.S 0) := by
  have f2 := oMshare_f h2
  exact ⟨h.same f2.1 f2.2.1 f2.2.2.1 f2.2.2.2.1 f2.2.2.2.2.1 f2.2.2.2.2.2.1 f2.2.2.2.2.2.2.2.2.2.2.2, by first | exact q_share hR hm h h1 h2 | exact trivial⟩
theorem k_new {X : XV} {Y : RV} (hc : X.c = 0 ∧ X.cf = 0 ∧ X.ct = 0 ∧ X.ch = 0 ∧ X.cd = 0 ∧ X.fb = (fun _ => 0) ∧ X.fl = (fun _ => 0) ∧ X.v = (fun _ => it0) ∧ X.ck = 0) (hY : Y.I = rz_I 200 ∧ Y.L = (fun _ _ => 0) ∧ Y.S = (fun _ => 0) ∧ Y.ck = 0 ∧ Y.nr = 0 ∧ Y.nf = 0 ∧ Y.na = 0 ∧ Y.cn = (fun _ => 0) ∧ Y.bg = (fun _ => 0) ∧ Y.lt = (fun _ => 0)) : Cr X Y := by
  obtain ⟨c1, c2, c3, c4, c5, c6, c7, c8, c9⟩ := hc
  obtain ⟨y1, y2, y3, y4, y5, y6, y7, y8, y9, y10⟩ := hY
  refine ⟨⟨c1.trans y5.symm, c2.trans y6.symm, fun z hz => absurd hz (by rw [c2]; omega), fun k hk => absurd hk (by rw [c1]; omega)⟩, ⟨by rw [y3, c4]; rfl, ⟨fun _ => 0, fun i hi => absurd hi (by rw [c4]; omega), fun i j _ hj => absurd hj (by rw [c4]; omega)⟩, fun j _ => ⟨fun z => absurd (by rw [y1]; exact rzo (by decide) j) z, fun ⟨i, hi, _⟩ => absurd hi (by rw [c4]; omega)⟩⟩, fun j hj => ?_, fun p _ => ?_, ⟨by rw [c3, y7]; rfl, fun i v hi _ => absurd hi (by rw [c3]; omega)⟩, c9.trans y4.symm, 0, by decide, y4⟩
  · rw [c8, y1, y2]
    have e7 : rz_I 200 7 j = -1 := if_pos ⟨rfl, hj⟩
    unfold itR
    rw [e7, rzo (by decide), rzo (by decide), rzo (by decide), rzo (by decide)]
    exact ⟨rfl, Or.inl rfl, fun z => absurd (by decide) z, rfl, rfl, rfl, rfl, rfl, ⟨0, by decide, rfl⟩, 0, by decide, rfl⟩
  · rw [c6, c7, y1, rzo (by decide), rzo (by decide)]; exact ⟨rfl, rfl⟩
end KP
