/-- THE REFUTATION: the claim grants 177 new cells; on this script the law makes at least 764 -/
theorem p29_false : ¬ (Claimed_1_1 ∧ Claimed_1_2) := by
  rintro ⟨-, h2⟩
  obtain ⟨hL, hW, hadm, -, hcas, hclk, hf, hfit, hheap, happ, hcalls, hrest, hpre⟩ := rfs.atStart
  obtain ⟨n, o, hw, hrun, hend, hpost⟩ := h2 launch0 rfl hL hW rfs.p0 rfs.e0 hadm hcas hclk rfs.about ⟨0, 0⟩ rfs.args0 Lib.HandBits.below0 hf hfit hheap happ ⟨hcalls, hrest, hpre⟩
  have happ2 : (headSpec (Cond.code x code maxLocals ret :: tables_1) rf_room).applies x rfs.e0.platform rfs.about = true := (Spec.applies_iff rfl).mpr ⟨rfl, rfl, rfl, (by decide +kernel), (by decide +kernel), (by decide +kernel), launch0.hasRoom_least _ rf_room (by decide +kernel) (by decide +kernel) (by decide +kernel) (by decide +kernel) (by decide +kernel) (by decide +kernel), atoms_intro rfs.words⟩
  have hI : rfs.about.IntsAt 0 rf_xs := ⟨{ cls := 18, slots := rfs.cells0, vm := .none }, rfl, rfl, ⟨fun k h => (nomatch h), rfs.cArr "[I" 17 .int, rfl, 17, rfl⟩, by decide⟩
  obtain ⟨n2, o2, hw2, hrun2, hend2, hbig⟩ := rf_walk launch0 rfl 0 rfs.p0 rfs.e0 hadm hcas hclk rfs.about ⟨0, 0⟩ rfs.args0 Lib.HandBits.below0 hf ((Spec.applies_iff_loose hf).mp happ2).1 ⟨rfl, hI, hpre⟩ trivial
  obtain ⟨e1, e2⟩ := the_end_unique (f := fun k => stepsAlone rfs.p0.tables rfs.e0 k rfs.about) hw hend hw2 hend2
  subst e1
  have hsize : (stepsAlone rfs.p0.tables rfs.e0 n rfs.about).heap.size ≤ rfs.about.heap.size + 177 := hpost.2.2.2.2.2.1
  have hb : rfs.about.heap.size + 764 ≤ (stepsAlone rfs.p0.tables rfs.e0 n rfs.about).heap.size := hbig
  exact absurd (Nat.le_trans hb hsize) (by omega)
