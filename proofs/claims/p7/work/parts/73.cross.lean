/-! WHAT BINDS THE TWO: the holidays -/
def Cr (X : XV) (Y : RV) : Prop := CrH X Y
abbrev e_rule (_ _ : Int32) : Prop := True
abbrev e_event (_ _ : Int32) : Prop := True
abbrev e_tick (_ _ : Int32) : Prop := True
abbrev e_alarm (_ _ : Int32) : Prop := True
abbrev e_state (_ _ : Int32) : Prop := True
abbrev e_hol (a b : Int32) : Prop := a = b
abbrev e_perc (_ _ : Int64) : Prop := True
abbrev e_found (_ _ : Int32) : Prop := True
abbrev e_cluster (_ _ : Int32) : Prop := True
abbrev e_failing (_ _ : Int32) : Prop := True
abbrev e_share (_ : Int32) (_ _ : Int64) (_ : Int32) : Prop := True
section KP
variable {m : Nat} {X X' : XV} {Y Y' : RV} {r1 r2 : Int32} {s1 s2 : Int64}
theorem k_rule (_ : X.ci m) (_ : Y.ri m) (h : Cr X Y) {st pl sv : Int32} {wi : Int64} {fl : Int32} (h1 : oXrule st pl sv wi fl X r1 X') (h2 : oMrule st pl sv wi fl Y r2 Y') : Cr X' Y' ∧ e_rule r1 r2 := by
  have f1 := oXrule_f h1
  have f2 := oMrule_f h2
  exact ⟨CrH.eq h f1.2.2.1 f1.2.2.2.1 f2.2.2.2.2.2.2.2.1 (f2.2.2.2.2.2.2.2.2.1 15 (by decide) (by decide) (by decide) (by decide)), trivial⟩
theorem k_event (_ : X.ci m) (_ : Y.ri m) (h : Cr X Y) {i st pl sv : Int32} {t : Int64} (h1 : oXevent i st pl sv t X r1 X') (h2 : oMevent i st pl sv t Y r2 Y') : Cr X' Y' ∧ e_event r1 r2 := by
  have f1 := oXevent_f h1
  have f2 := oMevent_f h2
  exact ⟨CrH.eq h f1.2.1 f1.2.2.1 f2.2.2.2.2.2.1 f2.2.2.2.2.2.2.1.2.2.2.2.1, trivial⟩
theorem k_tick (_ : X.ci m) (_ : Y.ri m) (h : Cr X Y) {t : Int64} (h1 : oXtick t X r1 X') (h2 : oMtick t Y r2 Y') : Cr X' Y' ∧ e_tick r1 r2 := by
  have f1 := oXtick_f h1
  have f2 := oMtick_f h2
  exact ⟨CrH.eq h f1.2.2.2.2.1 f1.2.2.2.2.2.1 f2.2.2.2.2.2.1 (f2.2.2.2.2.2.2.1 15 (by decide) (by decide) (by decide)), trivial⟩
theorem k_s0 (h : Cr X Y) : Cr X Y.s0 := CrH.eq h rfl rfl (su16 Y.S 0 0 (by decide)) rfl
theorem k_alarm (_ : X.ci m) (_ : Y.ri m) (h : Cr X Y) {i u : Int32} (h1 : oXalarm i u X r1 X') (h2 : oMalarm i u Y r2 Y') : Cr X' Y' ∧ e_alarm r1 r2 := by
  obtain ⟨rfl, _⟩ := h1; obtain ⟨rfl, _⟩ := h2; exact ⟨k_s0 h, trivial⟩
theorem k_state (_ : X.ci m) (_ : Y.ri m) (h : Cr X Y) {i : Int32} (h1 : oXstate i X r1 X') (h2 : oMstate i Y r2 Y') : Cr X' Y' ∧ e_state r1 r2 := by
  obtain ⟨rfl, _⟩ := h1; obtain ⟨rfl, _⟩ := h2; exact ⟨k_s0 h, trivial⟩
theorem k_hol (hC : X.ci m) (_ : Y.ri m) (h : Cr X Y) {t : Int64} (h1 : oXhol t X r1 X') (h2 : oMhol t Y r2 Y') : Cr X' Y' ∧ e_hol r1 r2 := h_hol hC.2.2.1 h h1 h2
theorem k_perc (_ : m ≤ 512) (_ : X.ci m) (_ : Y.ri m) (h : Cr X Y) {i u : Int32} (h1 : oXperc i u X s1 X') (h2 : oMperc i u Y s2 Y') : Cr X' Y' ∧ e_perc s1 s2 := by
  obtain ⟨rfl, _⟩ := h1; obtain ⟨rfl, _⟩ := h2; exact ⟨k_s0 h, trivial⟩
theorem k_found (_ : X.ci m) (_ : Y.ri m) (h : Cr X Y) {i : Int32} {t : Int64} (h1 : oXfound i t X r1 X') (h2 : oMfound i t Y r2 Y') : Cr X' Y' ∧ e_found r1 r2 := by
  have f1 := oXfound_f h1
  have f2 := oMfound_f h2
  exact ⟨CrH.eq h f1.2.2.2.2.1 f1.2.2.2.2.2.1 f2.2.2.2.2.2.2.2.2.2.1 (f2.2.2.2.2.2.2.2.2.2.2.1 15 (by decide) (by decide) (by decide)), trivial⟩
theorem k_cluster (_ : m ≤ 512) (_ : X.ci m) (_ : Y.ri m) (h : Cr X Y) {i u : Int32} (h1 : oXcluster i u X r1 X') (h2 : oMcluster i u Y r2 Y') : Cr X' Y' ∧ e_cluster r1 r2 := by
  obtain ⟨rfl, _⟩ := h1; obtain ⟨rfl, _⟩ := h2; exact ⟨k_s0 h, trivial⟩
theorem k_failing (_ : X.ci m) (_ : Y.ri m) (h : Cr X Y) {i : Int32} (h1 : oXfailing i X r1 X') (h2 : oMfailing i Y r2 Y') : Cr X' Y' ∧ e_failing r1 r2 := by
  obtain ⟨rfl, _⟩ := h1; obtain ⟨rfl, _⟩ := h2; exact ⟨k_s0 h, trivial⟩
theorem k_share (_ : m ≤ 512) (_ : X.ci m) (_ : Y.ri m) (h : Cr X Y) {i sd : Int32} (h1 : oXshare i sd X r1 s1) (h2 : oMshare i sd Y s2 Y') : Cr X Y' ∧ e_share r1 s1 s2 (Y'.S 0) := by
  have f2 := oMshare_f h2
  exact ⟨CrH.eq h rfl rfl f2.2.2.1 (by rw [f2.1]), trivial⟩
theorem k_new {X : XV} {Y : RV} (hc : X.c = 0 ∧ X.cf = 0 ∧ X.ct = 0 ∧ X.ch = 0 ∧ X.cd = 0 ∧ X.fb = (fun _ => 0) ∧ X.fl = (fun _ => 0) ∧ X.v = (fun _ => it0) ∧ X.ck = 0) (hY : Y.I = rz_I 200 ∧ Y.L = (fun _ _ => 0) ∧ Y.S = (fun _ => 0) ∧ Y.ck = 0 ∧ Y.nr = 0 ∧ Y.nf = 0 ∧ Y.na = 0 ∧ Y.cn = (fun _ => 0) ∧ Y.bg = (fun _ => 0) ∧ Y.lt = (fun _ => 0)) : Cr X Y := by
  refine ⟨by rw [hY.2.2.1, hc.2.2.2.1]; rfl, ⟨fun _ => 0, fun i hi => absurd hi (by rw [hc.2.2.2.1]; omega), fun i j _ hj => absurd hj (by rw [hc.2.2.2.1]; omega)⟩, fun j _ => ⟨fun z => absurd (by rw [hY.1]; exact rzo (by decide) j) z, fun ⟨i, hi, _⟩ => absurd hi (by rw [hc.2.2.2.1]; omega)⟩⟩
end KP
