/-! WHAT BINDS THE TWO: the number of rows -/
def Cr (X : XV) (Y : RV) : Prop := X.c = Y.nr
abbrev e_rule (a b : Int32) : Prop := a = b
abbrev e_event (_ _ : Int32) : Prop := True
abbrev e_tick (_ _ : Int32) : Prop := True
abbrev e_alarm (_ _ : Int32) : Prop := True
abbrev e_state (_ _ : Int32) : Prop := True
abbrev e_hol (_ _ : Int32) : Prop := True
abbrev e_perc (_ _ : Int64) : Prop := True
abbrev e_found (_ _ : Int32) : Prop := True
abbrev e_cluster (_ _ : Int32) : Prop := True
abbrev e_failing (_ _ : Int32) : Prop := True
abbrev e_share (_ : Int32) (_ _ : Int64) (_ : Int32) : Prop := True
theorem oXevent_c {i st pl sv : Int32} {t : Int64} {X X' : XV} {r : Int32} (h : oXevent i st pl sv t X r X') : X'.c = X.c := by
  rcases h with ⟨_, _, rfl⟩ | ⟨_, _, _, _, _, _, (⟨_, _, rfl⟩ | ⟨_, (⟨_, _, _, _, _, rfl⟩ | ⟨_, _, _, rfl⟩ | ⟨_, _, _, _, _, (⟨_, _, (⟨_, rfl⟩ | ⟨_, rfl⟩)⟩ | ⟨_, _, rfl⟩)⟩)⟩)⟩ <;> rfl
theorem oMevent_nr {i st pl sv : Int32} {t : Int64} {Y Y' : RV} {r : Int32} (h : oMevent i st pl sv t Y r Y') : Y'.nr = Y.nr := by
  rcases h with ⟨_, _, rfl⟩ | ⟨_, _, _, _, _, _, (⟨_, _, rfl⟩ | ⟨_, _, _, _, _, _, _, _, _, _, (⟨_, _, rfl⟩ | ⟨_, _, _, _, (⟨_, _, rfl⟩ | ⟨_, _, _, (⟨_, rfl⟩ | ⟨_, rfl⟩)⟩ | ⟨_, _, _, rfl⟩)⟩)⟩)⟩ <;> rfl
section KP
variable {m : Nat} {X X' : XV} {Y Y' : RV} {r1 r2 : Int32} {s1 s2 : Int64}
theorem k_rule (hC : X.ci m) (hR : Y.ri m) (h : Cr X Y) {st pl sv : Int32} {wi : Int64} {fl : Int32} (h1 : oXrule st pl sv wi fl X r1 X') (h2 : oMrule st pl sv wi fl Y r2 Y') : Cr X' Y' ∧ e_rule r1 r2 := by
  have h : X.c = Y.nr := h
  have hn40 : Y.nr ≤ 40 := hR.1.2
  have e40 : nI Y.nr = 40 ↔ Y.nr = 40 := nI_eq (b := 40) (by omega) (by decide)
  rcases h1 with ⟨n1, rfl, rfl⟩ | ⟨y1, z1, rfl, rfl⟩ | ⟨y1, z1, rfl, qa, rfl⟩
  · rcases h2 with ⟨_, rfl, rfl⟩ | ⟨y2, _⟩ | ⟨y2, _⟩
    · exact ⟨h, rfl⟩
    · exact absurd (n_rc.mpr y2) n1
    · exact absurd (n_rc.mpr y2) n1
  · rcases h2 with ⟨n2, _⟩ | ⟨y2, _, rfl, rfl⟩ | ⟨y2, z2, _⟩
    · exact absurd (n_rc.mp y1) n2
    · exact ⟨h, rfl⟩
    · omega
  · rcases h2 with ⟨n2, _⟩ | ⟨y2, z2, _⟩ | ⟨y2, z2, rfl, w0, _, rfl⟩
    · exact absurd (n_rc.mp y1) n2
    · have := e40.mp z2; omega
    · exact ⟨congrArg (· + 1) h, by rw [h]⟩
theorem k_event (_ : X.ci m) (_ : Y.ri m) (h : Cr X Y) {i st pl sv : Int32} {t : Int64} (h1 : oXevent i st pl sv t X r1 X') (h2 : oMevent i st pl sv t Y r2 Y') : Cr X' Y' ∧ e_event r1 r2 := ⟨(oXevent_c h1).trans (Eq.trans h (oMevent_nr h2).symm), trivial⟩
theorem k_tick (_ : X.ci m) (_ : Y.ri m) (h : Cr X Y) {t : Int64} (h1 : oXtick t X r1 X') (h2 : oMtick t Y r2 Y') : Cr X' Y' ∧ e_tick r1 r2 := by
  rcases h1 with ⟨_, _, rfl⟩ | ⟨_, _, _, _, _, rfl⟩ <;> rcases h2 with ⟨_, _, rfl⟩ | ⟨_, _, _, _, _, rfl⟩ <;> exact ⟨h, trivial⟩
theorem k_alarm (_ : X.ci m) (_ : Y.ri m) (h : Cr X Y) {i u : Int32} (h1 : oXalarm i u X r1 X') (h2 : oMalarm i u Y r2 Y') : Cr X' Y' ∧ e_alarm r1 r2 := by
  obtain ⟨rfl, _⟩ := h1; obtain ⟨rfl, _⟩ := h2; exact ⟨h, trivial⟩
theorem k_state (_ : X.ci m) (_ : Y.ri m) (h : Cr X Y) {i : Int32} (h1 : oXstate i X r1 X') (h2 : oMstate i Y r2 Y') : Cr X' Y' ∧ e_state r1 r2 := by
  obtain ⟨rfl, _⟩ := h1; obtain ⟨rfl, _⟩ := h2; exact ⟨h, trivial⟩
theorem k_hol (_ : X.ci m) (_ : Y.ri m) (h : Cr X Y) {t : Int64} (h1 : oXhol t X r1 X') (h2 : oMhol t Y r2 Y') : Cr X' Y' ∧ e_hol r1 r2 := by
  rcases h1 with ⟨_, _, rfl⟩ | ⟨_, (⟨_, _, rfl⟩ | ⟨_, _, _, rfl⟩ | ⟨_, _, _, _, _, rfl⟩)⟩ <;> rcases h2 with ⟨_, _, rfl⟩ | ⟨_, _, _, _, _, (⟨_, _, rfl⟩ | ⟨_, _, _, rfl⟩ | ⟨_, _, _, rfl⟩)⟩ <;> exact ⟨h, trivial⟩
theorem k_perc (_ : m ≤ 512) (_ : X.ci m) (_ : Y.ri m) (h : Cr X Y) {i u : Int32} (h1 : oXperc i u X s1 X') (h2 : oMperc i u Y s2 Y') : Cr X' Y' ∧ e_perc s1 s2 := by
  obtain ⟨rfl, _⟩ := h1; obtain ⟨rfl, _⟩ := h2; exact ⟨h, trivial⟩
theorem k_found (_ : X.ci m) (_ : Y.ri m) (h : Cr X Y) {i : Int32} {t : Int64} (h1 : oXfound i t X r1 X') (h2 : oMfound i t Y r2 Y') : Cr X' Y' ∧ e_found r1 r2 := by
  rcases h1 with ⟨_, _, rfl⟩ | ⟨_, _, _, (⟨_, _, rfl⟩ | ⟨_, _, _, rfl⟩ | ⟨_, _, _, rfl⟩)⟩ <;> rcases h2 with ⟨_, _, rfl⟩ | ⟨_, _, _, (⟨_, _, rfl⟩ | ⟨_, _, _, rfl⟩ | ⟨_, _, _, rfl⟩)⟩ <;> exact ⟨h, trivial⟩
theorem k_cluster (_ : m ≤ 512) (_ : X.ci m) (_ : Y.ri m) (h : Cr X Y) {i u : Int32} (h1 : oXcluster i u X r1 X') (h2 : oMcluster i u Y r2 Y') : Cr X' Y' ∧ e_cluster r1 r2 := by
  obtain ⟨rfl, _⟩ := h1; obtain ⟨rfl, _⟩ := h2; exact ⟨h, trivial⟩
theorem k_failing (_ : X.ci m) (_ : Y.ri m) (h : Cr X Y) {i : Int32} (h1 : oXfailing i X r1 X') (h2 : oMfailing i Y r2 Y') : Cr X' Y' ∧ e_failing r1 r2 := by
  obtain ⟨rfl, _⟩ := h1; obtain ⟨rfl, _⟩ := h2; exact ⟨h, trivial⟩
theorem k_share (_ : m ≤ 512) (_ : X.ci m) (_ : Y.ri m) (h : Cr X Y) {i sd : Int32} (h1 : oXshare i sd X r1 s1) (h2 : oMshare i sd Y s2 Y') : Cr X Y' ∧ e_share r1 s1 s2 (Y'.S 0) := by
  rcases h2 with ⟨_, _, rfl⟩ | ⟨_, _, _, (⟨_, _, rfl⟩ | ⟨_, _, _, rfl⟩ | ⟨_, _, _, rfl⟩)⟩ <;> exact ⟨h, trivial⟩
theorem k_new {X : XV} {Y : RV} (hc : X.c = 0 ∧ X.cf = 0 ∧ X.ct = 0 ∧ X.ch = 0 ∧ X.cd = 0 ∧ X.fb = (fun _ => 0) ∧ X.fl = (fun _ => 0) ∧ X.v = (fun _ => it0) ∧ X.ck = 0) (hY : Y.I = rz_I 200 ∧ Y.L = (fun _ _ => 0) ∧ Y.S = (fun _ => 0) ∧ Y.ck = 0 ∧ Y.nr = 0 ∧ Y.nf = 0 ∧ Y.na = 0 ∧ Y.cn = (fun _ => 0) ∧ Y.bg = (fun _ => 0) ∧ Y.lt = (fun _ => 0)) : Cr X Y := hc.1.trans hY.2.2.2.2.1.symm
end KP
