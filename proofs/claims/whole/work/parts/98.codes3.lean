/-! ===== the exceptions told alike: dispute, settle, guarantees ===== -/
theorem trT_in {S : Mem} (h : Rel S) {t : Int} (q : trR S t = true) : 0 ≤ t ∧ t < S 3 1 := by
  have e7 := h.2.2.2.2.2.2.1
  unfold trR at q
  have := of_decide_eq_true q
  omega
theorem cd_disp {S : Mem} (h : Rel S) (hg : RgR S) (hj : ∀ t, 0 ≤ t → t < S 18 7 → (0 ≤ S 24 t ∧ S 24 t < S 18 1) ∧ 0 ≤ S 25 t ∧ S 25 t < S 18 1) {t : Int} : tr12 (cxDisp S t) = cdDisp S t ∨ cxDisp S t = 0 ∧ cdDisp S t = 0 := by
  unfold cxDisp cdDisp tr12 sq
  rw [rel_xnT h, rel_liv h, rel_liv h]
  by_cases q : trR S t = true
  · have ht := trT_in h q
    have e7 := h.2.2.2.2.2.2.1
    obtain ⟨e0, e1, e2, -⟩ := h.2.2.2.2.2.2.2.2.1 t ht.1 ht.2
    have j := hj t ht.1 (by omega)
    rw [e0, e1, e2]
    have r6 := hg.2.2.2.2.2.1
    have a1 := r6 (S 24 t)
    have a2 := r6 (S 25 t)
    have l1 : livR S (S 24 t) = true ↔ S 19 (S 24 t) ≠ 0 := by
      unfold livR
      rw [decide_eq_true j.1, Bool.true_and, decide_eq_true_eq]
      omega
    have l2 : livR S (S 25 t) = true ↔ S 19 (S 25 t) ≠ 0 := by
      unfold livR
      rw [decide_eq_true j.2, Bool.true_and, decide_eq_true_eq]
      omega
    by_cases q2 : S 28 t = 0 ∧ livR S (S 24 t) = true ∧ livR S (S 25 t) = true
    · have q3 : S 28 t = 0 ∧ S 19 (S 24 t) ≠ 0 ∧ S 19 (S 25 t) ≠ 0 := ⟨q2.1, l1.mp q2.2.1, l2.mp q2.2.2⟩
      refine Or.inr ⟨?_, ?_⟩
      · rw [if_pos q2]; simp [q]
      · rw [if_pos q3]; simp [q]
    · have q3 : ¬ (S 28 t = 0 ∧ S 19 (S 24 t) ≠ 0 ∧ S 19 (S 25 t) ≠ 0) := fun z => q2 ⟨z.1, l1.mpr z.2.1, l2.mpr z.2.2⟩
      refine Or.inl ?_
      rw [if_neg q2, if_neg q3]
      simp [q]
  · simp [q]
theorem cd_sett {S : Mem} (h : Rel S) {t : Int} : tr12 (cxSett S t) = cdSett S t ∨ cxSett S t = 0 ∧ cdSett S t = 0 := by
  unfold cxSett cdSett tr12 sq
  rw [rel_xnT h]
  by_cases q : trR S t = true
  · have ht := trT_in h q
    obtain ⟨e0, -⟩ := h.2.2.2.2.2.2.2.2.1 t ht.1 ht.2
    rw [e0]
    by_cases q2 : S 28 t = 1
    · simp [q, q2]
    · simp [q, q2]
  · simp [q]
