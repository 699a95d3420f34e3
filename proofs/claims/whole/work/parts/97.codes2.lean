/-! ===== the exceptions told alike: calls that change something ===== -/
theorem cd_trade {S : Mem} (h : Rel S) (hg : RgR S) (h8 : gu8 S) {b s a : Int} : cxTrade S b s a = cdTrade S b s a := by
  have e7 := h.2.2.2.2.2.2.1
  have r7 := hg.2.1
  unfold cxTrade cdTrade sq xnR xnU xnB
  rw [rel_xnS h, rel_xnS h, e7, h.1]
  by_cases q : livR S b = true
  · have hb := livR_in q hg
    rw [rel_lim h h8 (s := b) (by omega)]
    by_cases q2 : livR S s = true
    · by_cases q3 : 1 ≤ a ∧ a ≤ 1000
      · by_cases q4 : b = s
        · simp [q2, q3, q4]
        · by_cases q5 : S 18 7 = 100
          · simp [q, q2, q3, q4, q5]
          · have q6 : S 18 7 < 100 := by omega
            by_cases q7 : 0 ≤ bl (S 20) b + limR S b - a
            · have q8 : ¬ bl (S 20) b - a + limR S b < 0 := by omega
              have q9 : a ≤ bl (S 20) b + limR S b := by omega
              simp [q, q2, q3, q4, q5, q6, q7, q8, q9]
            · have q8 : bl (S 20) b - a + limR S b < 0 := by omega
              have q9 : ¬ a ≤ bl (S 20) b + limR S b := by omega
              simp [q, q2, q3, q4, q5, q6, q7, q8, q9]
      · simp [q, q2, q3]
    · simp [q, q2]
  · simp [q]
theorem cd_leave {S : Mem} (h : Rel S) {s : Int} : tr12 (cxLeav S s) = cdLeav S s ∨ cxLeav S s = 0 ∧ cdLeav S s = 0 := by
  unfold cxLeav cdLeav tr12 sq
  rw [rel_xnS h, rel_disp h]
  by_cases q : livR S s = true
  · by_cases q2 : anyI (fun t => isofR S s t && decide (S 28 t = 1)) (S 18 7).toNat = true
    · simp [q, q2]
    · simp [q, q2]
  · simp [q]
