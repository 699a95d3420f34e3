/-! ===== what holds between the class's memory and the reference's ===== -/
/-- the rows of trades alike -/
def RelT (S : Mem) : Prop := ∀ t : Int, 0 ≤ t → t < S 3 1 → trd S t 0 = S 28 t ∧ trd S t 1 = S 24 t ∧ trd S t 2 = S 25 t ∧ trd S t 3 = S 26 t ∧ trd S t 4 = S 27 t ∧ trd S t 5 = S 29 t
/-- the rows of rings alike -/
def RelR (S : Mem) : Prop := ∀ r w : Int, 0 ≤ r → r < S 15 1 → 0 ≤ w → w < 7 → tg 57 7 (S 17) r w = S 30 (rix r w)
/-- the shops alike -/
def RelS (S : Mem) : Prop := ∀ s : Int, 0 ≤ s → s < S 0 6 → (tg 8 2 (S 2) s 0 = 0 ↔ S 19 s = 1) ∧ tg 8 2 (S 2) s 1 = S 23 s
def Rel (S : Mem) : Prop := S 8 = S 20 ∧ S 10 = S 21 ∧ S 12 = S 22 ∧ S 0 6 = S 18 1 ∧ S 0 7 = S 18 14 ∧ S 0 8 = S 18 15 ∧ S 3 1 = S 18 7 ∧ S 15 1 = S 18 16 ∧ RelT S ∧ RelR S ∧ RelS S
/-- no guarantee by or for the house -/
def gu8 (S : Mem) : Prop := ∀ s : Int, 0 ≤ s → s < 9 → S 22 (ix 8 s) = 0 ∧ S 22 (ix s 8) = 0
theorem rel_was {S : Mem} (h : Rel S) (s : Int) : was S s = wasR S s := by
  unfold was wasR
  rw [h.2.2.2.1]
theorem rel_liv {S : Mem} (h : Rel S) (s : Int) : liv S s = livR S s := by
  have e := rel_was h s
  have e6 := h.2.2.2.1
  unfold liv livR
  rw [e]
  unfold wasR
  by_cases q : 0 ≤ s ∧ s < S 18 1
  · have hs := (h.2.2.2.2.2.2.2.2.2.2 s q.1 (by omega)).1
    rw [decide_eq_true q, Bool.true_and, Bool.true_and]
    exact decide_eq_decide.mpr hs
  · rw [decide_eq_false q, Bool.false_and, Bool.false_and]
theorem rel_isof {S : Mem} (h : Rel S) {s t : Int} (t0 : 0 ≤ t) (t1 : t < S 3 1) : isof S s t = isofR S s t := by
  obtain ⟨-, e1, e2, -⟩ := h.2.2.2.2.2.2.2.2.1 t t0 t1
  unfold isof isofR
  rw [e1, e2]
theorem rel_amt {S : Mem} (h : Rel S) (s : Int) : sI (amtF S s (S 0 7 - 10 + 1)) (S 3 1).toNat = sI (amtR S s) (S 18 7).toNat := by
  rw [← h.2.2.2.2.2.2.1]
  refine sI_cong (fun t t0 t1 => ?_)
  have t2 : t < S 3 1 := by omega
  obtain ⟨e0, e1, e2, e3, e4, e5⟩ := h.2.2.2.2.2.2.2.2.1 t t0 t2
  unfold amtF amtR
  rw [rel_isof h t0 t2, e0, e3, e4, h.2.2.2.2.1, show S 18 14 - 10 + 1 = S 18 14 - 9 by omega]
theorem rel_lim {S : Mem} (h : Rel S) (h8 : gu8 S) {s : Int} (hs : 0 ≤ s ∧ s < 9) : lim S s = limR S s := by
  have e8 := h8 s hs.1 hs.2
  unfold lim limR col row
  rw [rel_amt h s, h.2.2.1, sI_sub]
  rw [show sI (fun i => S 22 (ix i s)) 9 = sI (fun i => S 22 (ix i s)) 8 + S 22 (ix 8 s) from rfl, show sI (fun j => S 22 (ix s j)) 9 = sI (fun j => S 22 (ix s j)) 8 + S 22 (ix s 8) from rfl, e8.1, e8.2]
  omega
theorem rel_laz {S : Mem} (h : Rel S) (ow : Fn) (s : Int) : idF S ow s = lazF S ow s := by
  unfold idF lazF rec4
  congr 2
  rw [← h.2.2.2.2.2.2.1]
  refine anyI_cong (fun t t0 t1 => ?_)
  have t2 : t < S 3 1 := by omega
  obtain ⟨e0, e1, e2, e3, e4, e5⟩ := h.2.2.2.2.2.2.2.2.1 t t0 t2
  rw [rel_isof h t0 t2, e4, h.2.2.2.2.1, show S 18 14 - 5 + 1 = S 18 14 - 4 by omega]
theorem rel_disp {S : Mem} (h : Rel S) (s : Int) : anyI (fun t => isof S s t && decide (trd S t 0 = 1)) (S 3 1).toNat = anyI (fun t => isofR S s t && decide (S 28 t = 1)) (S 18 7).toNat := by
  rw [← h.2.2.2.2.2.2.1]
  refine anyI_cong (fun t t0 t1 => ?_)
  have t2 : t < S 3 1 := by omega
  obtain ⟨e0, -⟩ := h.2.2.2.2.2.2.2.2.1 t t0 t2
  rw [rel_isof h t0 t2, e0]
theorem rel_xnS {S : Mem} (h : Rel S) (s : Int) : xnS S s = if livR S s = true then 0 else 1 := by
  unfold xnS
  rw [rel_liv h s]
theorem rel_xnW {S : Mem} (h : Rel S) (s : Int) : xnW S s = if wasR S s = true then 0 else 1 := by
  unfold xnW
  rw [rel_was h s]
theorem rel_xnT {S : Mem} (h : Rel S) (t : Int) : xnT S t = if trR S t = true then 0 else 1 := by
  unfold xnT trR
  rw [h.2.2.2.2.2.2.1]
