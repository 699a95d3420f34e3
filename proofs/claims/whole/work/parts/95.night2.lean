/-! ===== the rings of a night: class and reference do the same ===== -/
theorem pl_inj {f g : Fn} : ∀ {n : Nat}, pl f n = pl g n → ∀ k : Int, 0 ≤ k → k < n → f k = g k
  | 0, _, k, k0, k1 => absurd k1 (by omega)
  | n + 1, h, k, k0, k1 => by
    have h1 : f n = g n ∧ pl f n = pl g n := by
      simpa [pl] using h
    by_cases q : k = n
    · rw [q]; exact h1.1
    · exact pl_inj h1.2 k k0 (by omega)
theorem rowIs_same {h h2 : Fn} {c v w : Int} {l : List Int} (a : rowIs h c v l) (b : rowIs h2 c v l) (w0 : 0 ≤ w) (w7 : w < 7) : h (rix c w) = h2 (rix c w) := by
  obtain ⟨a1, a2, a3, a4⟩ := a
  obtain ⟨b1, b2, b3, b4⟩ := b
  by_cases q0 : w = 0
  · rw [q0, a1, b1]
  · by_cases q1 : w = 1
    · rw [q1, a2, b2]
    · by_cases q2 : w - 2 < l.length
      · have := pl_inj (a3.trans b3.symm) (w - 2) (by omega) q2
        rw [show (2 : Int) + (w - 2) = w by omega] at this
        exact this
      · have e1 := a4 (w - 2) (by omega) (by omega)
        have e2 := b4 (w - 2) (by omega) (by omega)
        rw [show (2 : Int) + (w - 2) = w by omega] at e1 e2
        rw [e1, e2]
/-- one memory's class with another's reference -/
def mg (S T : Mem) : Mem := fun o => if o < 18 then S o else T o
theorem rings_is {S T S1 T1 : Mem} {m : Nat} (h1 : raP S S1) (h2 : nrR T m T1) (hm : fnd (Gb (rgN (T 21) (T 20) m) (T 21)) = none) (e8 : S 8 = T 20) (e10 : S 10 = T 21) : S1 8 = T1 20 ∧ S1 15 1 = T1 18 16 ∧ ∀ r w : Int, 0 ≤ r → r < S1 15 1 → 0 ≤ w → w < 7 → tg 57 7 (S1 17) r w = T1 30 (rix r w) := by
  obtain ⟨n, hn, ⟨h, rfl, hrow⟩, hnone⟩ := h1
  rw [e8, e10] at hrow hnone
  obtain ⟨h31, h30, -, rfl, hm56, hrow2⟩ := h2
  have hnm : n = m := by
    rcases Nat.lt_trichotomy n m with q | q | q
    · obtain ⟨l, r1, -⟩ := hrow2 n q
      rw [hnone] at r1
      exact absurd r1 (by simp)
    · exact q
    · obtain ⟨l, r1, -⟩ := hrow m q
      rw [hm] at r1
      exact absurd r1 (by simp)
  subst hnm
  refine ⟨?_, ?_, fun r w r0 r1 w0 w7 => ?_⟩
  · show rgN (S 10) (S 8) n = rgN (T 21) (T 20) n
    rw [e8, e10]
  · show up (S 15) 1 n 1 = _
    rw [up_same, mset_hit]
  · have r1' : r < n := by
      have e : (mput (mput (mput S 8 (rgN (S 10) (S 8) n)) 17 h) 15 (up (S 15) 1 n)) 15 1 = n := by rw [mput_same]; exact up_same _ _ _
      rw [e] at r1
      exact r1
    obtain ⟨l, a1, a2⟩ := hrow r.toNat (by omega)
    obtain ⟨l2, b1, b2⟩ := hrow2 r.toNat (by omega)
    rw [a1] at b1
    cases Option.some.inj b1
    rw [show ((r.toNat : Nat) : Int) = r by omega] at a2 b2
    rw [tg_rix ⟨r0, by omega⟩ ⟨w0, w7⟩]
    exact rowIs_same a2 b2 w0 w7
