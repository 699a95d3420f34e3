/-! ===== the exceptions told alike ===== -/
theorem cd_fee {S : Mem} {x : Int} : trOne (cxFee S x) = cdFee x := by
  unfold cxFee cdFee trOne sq xnR
  by_cases q : 0 ≤ x ∧ x ≤ 500
  · simp [q]
  · simp [q]
theorem cd_night {x : Int} : trOne (cxNight x) = cdNight x := by
  unfold cxNight cdNight trOne sq xnR
  by_cases q : 1 ≤ x ∧ x ≤ 20
  · simp [q]
  · simp [q]
theorem cd_bal {S : Mem} (h : Rel S) {x : Int} : trOne (cxBal S x) = cdBal S x := by
  unfold cxBal cdBal trOne sq xnH
  rw [rel_xnW h]
  by_cases q : x = 8
  · simp [q]
  · by_cases q2 : wasR S x = true
    · simp [q, q2]
    · simp [q, q2]
theorem cd_lim {S : Mem} (h : Rel S) {x : Int} : trOne (cxLim S x) = cdLim S x := by
  unfold cxLim cdLim trOne sq
  rw [rel_xnS h]
  by_cases q : livR S x = true
  · simp [q]
  · simp [q]
theorem cd_owes {S : Mem} (h : Rel S) {x y : Int} : trOne (cxOwes S x y) = cdOwes S x y := by
  unfold cxOwes cdOwes trOne sq xnH
  rw [rel_xnW h, rel_xnW h]
  by_cases q : wasR S x = true
  · by_cases q2 : wasR S y = true
    · simp [q, q2]
    · by_cases q3 : y = 8
      · simp [q, q3]
      · simp [q, q2, q3]
  · simp [q]
theorem cd_two {S : Mem} (h : Rel S) {x y : Int} : trOne (cxTwo S x y) = cdTwo S x y := by
  unfold cxTwo cdTwo trOne sq
  rw [rel_xnW h, rel_xnW h]
  by_cases q : wasR S x = true
  · by_cases q2 : wasR S y = true
    · simp [q, q2]
    · simp [q, q2]
  · simp [q]
theorem cd_one {S : Mem} (h : Rel S) {x : Int} : trOne (cxOne S x) = cdOne S x := by
  unfold cxOne cdOne trOne sq
  rw [rel_xnW h]
  by_cases q : wasR S x = true
  · simp [q]
  · simp [q]
theorem cd_ofT {S : Mem} (h : Rel S) {t w : Int} : tr12 (cxOfT S t w) = cdOfT S t w ∨ cxOfT S t w = 0 ∧ cdOfT S t w = 0 := by
  unfold cxOfT cdOfT tr12 sq xnR
  rw [rel_xnT h]
  by_cases q : trR S t = true
  · by_cases q2 : 0 ≤ w ∧ w ≤ 5
    · simp [q, q2]
    · simp [q, q2]
  · simp [q]
theorem cd_join {S : Mem} (h : Rel S) (hg : RgR S) : trOne (cxJoin S) = cdJoin S := by
  have e := h.2.2.2.1
  have r := hg.1
  unfold cxJoin cdJoin trOne
  rw [e]
  by_cases q : S 18 1 = 8
  · simp [q]
  · have : S 18 1 < 8 := by omega
    simp [q, this]
theorem cd_ring {S : Mem} (h : Rel S) {r w : Int} : tr12 (cxRing S r w) = cdRing S r w ∨ cxRing S r w = 0 ∧ cdRing S r w = 0 := by
  have e := h.2.2.2.2.2.2.2.1
  unfold cxRing cdRing tr12 sq xnR
  rw [e]
  by_cases q : 0 ≤ r ∧ r < S 18 16
  · by_cases q2 : 0 ≤ w ∧ w ≤ 6
    · simp [q, q2]
    · simp [q, q2]
  · simp [q]
