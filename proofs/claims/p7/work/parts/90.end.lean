set_option maxRecDepth 16384 in
theorem rf_args : argsFit rf_about.vm ⟨0, 0⟩ start1.args0 = true := by decide +kernel
set_option maxRecDepth 16384 in
theorem rf_heap : heapFits rf_about = true := by decide +kernel
set_option maxRecDepth 16384 in
theorem rf_applies : (headSpec (Cond.code x code maxLocals ret :: tables_1) room_1).applies x start1.e0.platform rf_about = true :=
  (Spec.applies_iff rfl).mpr ⟨rfl, rfl, rfl, by decide +kernel, by decide +kernel, by decide +kernel, launch0.hasRoom_least _ room_1 (by decide +kernel) (by decide +kernel) (by decide +kernel) (by decide +kernel) (by decide +kernel) (by decide +kernel), atoms_intro rf_words⟩
set_option maxRecDepth 16384 in
theorem rf_rest : rest_1_c.before start1.args0 rf_about = true := by decide +kernel
set_option maxRecDepth 16384 in
theorem rf_pre : (Cond.and given_1 narrow_1).before start1.args0 rf_about = true := by decide +kernel
/-- The claim is false: at this script the law returns 0. -/
theorem rf_false : ¬ Claimed_1_2 := by
  intro h
  obtain ⟨n, o, hw, hr, he, hp⟩ := h launch0 rfl lists_1 trivial start1.p0 start1.e0 (launch0.admits_env _ _ _) fairChoices_fair.cas fairChoices_fair.clock rf_about ⟨0, 0⟩ start1.args0 Lib.HandBits.below0 rfl rf_args rf_heap rf_applies ⟨trivial, rf_rest, rf_pre⟩
  exact rf_clash rf_ends hw he (rf_out hp.1)
theorem rf_refuted : ¬ (Claimed_1_1 ∧ Claimed_1_2) := fun h => rf_false h.2
