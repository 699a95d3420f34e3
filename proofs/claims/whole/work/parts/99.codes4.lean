/-! ===== the exceptions told alike: guarantees ===== -/
theorem cd_guar {S : Mem} (h : Rel S) (hg : RgR S) (h8 : gu8 S) {f s a : Int} : cxGuar S f s a = cdGuar S f s a := by
  unfold cxGuar cdGuar xnG sq xnR xnU xnB
  rw [rel_xnS h, rel_xnS h, h.2.2.1, h.1]
  by_cases q : livR S f = true
  · have hb := livR_in q hg
    rw [rel_lim h h8 (s := f) (by omega)]
    by_cases q2 : livR S s = true
    · by_cases q3 : 1 ≤ a ∧ a ≤ 500
      · by_cases q4 : f = s
        · simp [q2, q3, q4]
        · by_cases q5 : S 22 (ix f s) + a ≤ 1000
          · have q6 : ¬ 1000 < S 22 (ix f s) + a := by omega
            by_cases q7 : 0 ≤ bl (S 20) f + limR S f - a
            · have q8 : ¬ bl (S 20) f + (limR S f - a) < 0 := by omega
              have q9 : a ≤ bl (S 20) f + limR S f := by omega
              simp [q, q2, q3, q4, q5, q6, q8, q9]
            · have q8 : bl (S 20) f + (limR S f - a) < 0 := by omega
              have q9 : ¬ a ≤ bl (S 20) f + limR S f := by omega
              simp [q, q2, q3, q4, q5, q6, q8, q9]
          · have q6 : 1000 < S 22 (ix f s) + a := by omega
            simp [q, q2, q3, q4, q5, q6]
      · simp [q, q2, q3]
    · simp [q, q2]
  · simp [q]
theorem cd_revo {S : Mem} (h : Rel S) (hg : RgR S) (h8 : gu8 S) {f s a : Int} : cxRevo S f s a = cdRevo S f s a := by
  unfold cxRevo cdRevo xnG sq xnR xnU xnB
  rw [rel_xnS h, rel_xnS h, h.2.2.1, h.1]
  by_cases q : livR S f = true
  · by_cases q2 : livR S s = true
    · have hb := livR_in q2 hg
      rw [rel_lim h h8 (s := s) (by omega)]
      by_cases q3 : 1 ≤ a ∧ a ≤ 500
      · by_cases q4 : f = s
        · simp [q2, q3, q4]
        · by_cases q5 : a ≤ S 22 (ix f s)
          · have q6 : ¬ S 22 (ix f s) < a := by omega
            by_cases q7 : 0 ≤ bl (S 20) s + limR S s - a
            · have q8 : ¬ bl (S 20) s + (limR S s - a) < 0 := by omega
              have q9 : a ≤ bl (S 20) s + limR S s := by omega
              simp [q, q2, q3, q4, q5, q6, q8, q9]
            · have q8 : bl (S 20) s + (limR S s - a) < 0 := by omega
              have q9 : ¬ a ≤ bl (S 20) s + limR S s := by omega
              simp [q, q2, q3, q4, q5, q6, q8, q9]
          · have q6 : S 22 (ix f s) < a := by omega
            simp [q, q2, q3, q4, q5, q6]
      · simp [q, q2, q3]
    · simp [q, q2]
  · simp [q]
