/-! ===== the reference's numbers ===== -/
theorem mset_hit (S : Mem) (o : Nat) (i v : Int) : mset S o i v o i = v := if_pos ⟨rfl, rfl⟩
theorem bI_32 (b : Bool) : -2147483648 ≤ bI b ∧ bI b < 2147483648 := by cases b <;> decide
theorem ix_lo {i j : Int} (hi : 0 ≤ i ∧ i < 9) (hj : 0 ≤ j ∧ j < 9) : 0 ≤ ix i j := by unfold ix; omega
theorem ix_hi {i j : Int} (hi : 0 ≤ i ∧ i < 9) (hj : 0 ≤ j ∧ j < 9) : ix i j < ((81 : Nat) : Int) := by unfold ix; omega
theorem bI_eq {b : Bool} {v : Int} (h : (v = 1 ∧ b = true) ∨ (v = 0 ∧ b = false)) : v = bI b := by
  rcases h with ⟨h1, h2⟩ | ⟨h1, h2⟩
  · rw [h1, h2]; rfl
  · rw [h1, h2]; rfl
def RgR (S : Mem) : Prop := (0 ≤ S 18 1 ∧ S 18 1 ≤ 8) ∧ (0 ≤ S 18 7 ∧ S 18 7 ≤ 100) ∧ (0 ≤ S 18 14 ∧ S 18 14 ≤ 20000) ∧ (0 ≤ S 18 15 ∧ S 18 15 ≤ 500) ∧ (0 ≤ S 18 16 ∧ S 18 16 ≤ 56) ∧ (∀ i, 0 ≤ S 19 i ∧ S 19 i ≤ 1) ∧ ∀ t, (0 ≤ S 24 t ∧ S 24 t < 8) ∧ (0 ≤ S 25 t ∧ S 25 t < 8) ∧ (0 ≤ S 26 t ∧ S 26 t ≤ 1000) ∧ (0 ≤ S 27 t ∧ S 27 t ≤ 20000) ∧ (0 ≤ S 28 t ∧ S 28 t ≤ 2) ∧ (0 ≤ S 29 t ∧ S 29 t ≤ 1000)
def livR (S : Mem) (s : Int) : Bool := decide (0 ≤ s ∧ s < S 18 1) && decide (S 19 s = 1)
def wasR (S : Mem) (s : Int) : Bool := decide (0 ≤ s ∧ s < S 18 1)
def isofR (S : Mem) (s t : Int) : Bool := decide (S 24 t = s) || decide (S 25 t = s)
def amtR (S : Mem) (s t : Int) : Int := if isofR S s t = true ∧ S 28 t ≠ 2 ∧ S 18 14 - 9 ≤ S 27 t then S 26 t else 0
def limR (S : Mem) (s : Int) : Int := 500 + (sI (amtR S s) (S 18 7).toNat).tdiv 10 + sI (fun k => S 22 (ix k s) - S 22 (ix s k)) 8
def lazR (S : Mem) (s : Int) : Bool := decide (0 < bl (S 20) s) && !anyI (fun t => isofR S s t && decide (S 18 14 - 4 ≤ S 27 t)) (S 18 7).toNat
def trR (S : Mem) (t : Int) : Bool := decide (0 ≤ t ∧ t < S 18 7)
theorem amtR_rng {S : Mem} (h : RgR S) (s : Int) : 0 ≤ sI (amtR S s) (S 18 7).toNat ∧ sI (amtR S s) (S 18 7).toNat ≤ 100000 := by
  obtain ⟨r1, r2, r3, r4, r5, r6, r7⟩ := h
  have hb : ∀ k : Int, 0 ≤ amtR S s k ∧ amtR S s k ≤ 1000 := by
    intro k
    have := (r7 k).2.2.1
    unfold amtR
    split <;> omega
  have e1 := sI_bound (f := amtR S s) (c := 1000) (n := (S 18 7).toNat) (fun k _ _ => (hb k).2)
  have e2 := sI_nn (f := amtR S s) (n := (S 18 7).toNat) (fun k _ _ => (hb k).1)
  omega
theorem limR_rng {S : Mem} (h : RgR S) (hg : Ok (S 22)) {s : Int} (hs : 0 ≤ s ∧ s < 9) : -200000 ≤ limR S s ∧ limR S s ≤ 500000 := by
  have e1 := amtR_rng h s
  have e2 : 0 ≤ (sI (amtR S s) (S 18 7).toNat).tdiv 10 ∧ (sI (amtR S s) (S 18 7).toNat).tdiv 10 ≤ 100000 := by
    rw [Int.tdiv_eq_ediv_of_nonneg e1.1]
    omega
  have n1 : ∀ k : Int, 0 ≤ k → k < ((8 : Nat) : Int) → 0 ≤ S 22 (ix k s) ∧ 0 ≤ S 22 (ix s k) := fun k k0 k1 => ⟨hg.1 k s k0 (by omega) hs.1 hs.2, hg.1 s k hs.1 hs.2 k0 (by omega)⟩
  have c1 : sI (fun k => S 22 (ix k s)) 9 = sI (fun k => S 22 (ix k s)) 8 + S 22 (ix 8 s) := rfl
  have c2 : sI (fun k => S 22 (ix s k)) 9 = sI (fun k => S 22 (ix s k)) 8 + S 22 (ix s 8) := rfl
  have e3 : 0 ≤ sI (fun k => S 22 (ix k s)) 8 := sI_nn (fun k a b => (n1 k a b).1)
  have e4 : 0 ≤ sI (fun k => S 22 (ix s k)) 8 := sI_nn (fun k a b => (n1 k a b).2)
  have e5 := col_le hg.1 hs
  have e6 := row_le hg.1 hs
  have e7 := hg.2
  have e8 := hg.1 8 s (by omega) (by omega) hs.1 hs.2
  have e9 := hg.1 s 8 hs.1 hs.2 (by omega) (by omega)
  unfold col at e5
  unfold row at e6
  unfold limR
  rw [sI_sub]
  omega
/-- the lowest one of N, looked for from above -/
def dF (P : Int → Bool) (N : Nat) : Nat → Int
  | 0 => -1
  | i + 1 => if P ((N : Int) - 1 - i) = true then (N : Int) - 1 - i else dF P N i
theorem dF_is (P : Int → Bool) (N : Nat) : ∀ i : Nat, i ≤ N → (dF P N i = -1 ∧ ∀ k : Int, (N : Int) - i ≤ k → k < N → P k = false) ∨ ((N : Int) - i ≤ dF P N i ∧ dF P N i < N ∧ P (dF P N i) = true ∧ ∀ k : Int, (N : Int) - i ≤ k → k < dF P N i → P k = false)
  | 0, _ => Or.inl ⟨rfl, fun k h1 h2 => by omega⟩
  | i + 1, h => by
    have ih := dF_is P N i (by omega)
    rw [dF]
    by_cases q : P ((N : Int) - 1 - i) = true
    · rw [if_pos q]
      exact Or.inr ⟨by omega, by omega, q, fun k h1 h2 => by omega⟩
    · rw [if_neg q]
      have q' : P ((N : Int) - 1 - i) = false := by simpa using q
      have low : ∀ k : Int, (N : Int) - ((i + 1 : Nat) : Int) ≤ k → ¬ (N : Int) - i ≤ k → P k = false := fun k h1 h2 => by
        rw [show k = (N : Int) - 1 - i by omega]; exact q'
      rcases ih with ⟨h1, h2⟩ | ⟨h1, h2, h3, h4⟩
      · refine Or.inl ⟨h1, fun k k1 k2 => ?_⟩
        by_cases z : (N : Int) - i ≤ k
        · exact h2 k z k2
        · exact low k k1 z
      · refine Or.inr ⟨by omega, h2, h3, fun k k1 k2 => ?_⟩
        by_cases z : (N : Int) - i ≤ k
        · exact h4 k z k2
        · exact low k k1 z
/-- the lowest debtor of s, the lowest creditor -/
def ldF (ow : Fn) (s : Int) : Int := dF (fun k => decide (0 < ow (ix k s))) 8 8
def lcF (ow : Fn) (s : Int) : Int := dF (fun k => decide (0 < ow (ix s k))) 9 9
theorem ldF_is (ow : Fn) (s : Int) : (ldF ow s = -1 ∧ ∀ k : Int, 0 ≤ k → k < 8 → ¬ 0 < ow (ix k s)) ∨ (0 ≤ ldF ow s ∧ ldF ow s < 8 ∧ 0 < ow (ix (ldF ow s) s) ∧ ∀ k : Int, 0 ≤ k → k < ldF ow s → ¬ 0 < ow (ix k s)) := by
  have h := dF_is (fun k => decide (0 < ow (ix k s))) 8 8 (Nat.le_refl 8)
  rcases h with ⟨h1, h2⟩ | ⟨h1, h2, h3, h4⟩
  · exact Or.inl ⟨h1, fun k k0 k1 => of_decide_eq_false (h2 k (by omega) (by omega))⟩
  · exact Or.inr ⟨by unfold ldF; omega, by unfold ldF; omega, of_decide_eq_true h3, fun k k0 k1 => of_decide_eq_false (h4 k (by omega) k1)⟩
theorem lcF_is (ow : Fn) (s : Int) : (lcF ow s = -1 ∧ ∀ k : Int, 0 ≤ k → k < 9 → ¬ 0 < ow (ix s k)) ∨ (0 ≤ lcF ow s ∧ lcF ow s < 9 ∧ 0 < ow (ix s (lcF ow s)) ∧ ∀ k : Int, 0 ≤ k → k < lcF ow s → ¬ 0 < ow (ix s k)) := by
  have h := dF_is (fun k => decide (0 < ow (ix s k))) 9 9 (Nat.le_refl 9)
  rcases h with ⟨h1, h2⟩ | ⟨h1, h2, h3, h4⟩
  · exact Or.inl ⟨h1, fun k k0 k1 => of_decide_eq_false (h2 k (by omega) (by omega))⟩
  · exact Or.inr ⟨by unfold lcF; omega, by unfold lcF; omega, of_decide_eq_true h3, fun k k0 k1 => of_decide_eq_false (h4 k (by omega) k1)⟩
/-- a debt passed on, if there is one -/
def pst (s : Int) (ow : Fn) : Fn := if ldF ow s ≠ -1 ∧ lcF ow s ≠ -1 then psF s (ldF ow s) (lcF ow s) ow else ow
def psN (s : Int) (ow : Fn) : Nat → Fn
  | 0 => ow
  | n + 1 => pst s (psN s ow n)
def pstuck (s : Int) (ow : Fn) : Prop := ldF ow s = -1 ∨ lcF ow s = -1
theorem pst_ok {s : Int} {ow : Fn} (hs : 0 ≤ s ∧ s < 9) (h : OkD ow) : OkD (pst s ow) := by
  unfold pst
  split
  · have h1 := ldF_is ow s
    have h2 := lcF_is ow s
    exact psF_ok hs (by omega) (by omega) h
  · exact h
theorem psN_ok {s : Int} {ow : Fn} (hs : 0 ≤ s ∧ s < 9) (h : OkD ow) : ∀ n : Nat, OkD (psN s ow n)
  | 0 => h
  | n + 1 => pst_ok hs (psN_ok hs h n)
theorem pst_tot {s : Int} {ow : Fn} (hs : 0 ≤ s ∧ s < 9) (h : OkD ow) (h1 : ldF ow s ≠ -1) (h2 : lcF ow s ≠ -1) : tot (psF s (ldF ow s) (lcF ow s) ow) ≤ tot ow - 1 := by
  have e1 := ldF_is ow s
  have e2 := lcF_is ow s
  have hm := mn_le (ow (ix (ldF ow s) s)) (ow (ix s (lcF ow s)))
  unfold psF
  rw [tkF_tot (by omega) hs (by omega), tot_adF (by omega) hs]
  split <;> omega
/-- the greatest debtor -/
def mxF (ow fz : Fn) (s : Int) : Nat → Int
  | 0 => -1
  | n + 1 => if 0 < opF ow fz n s ∧ (mxF ow fz s n = -1 ∨ opF ow fz (mxF ow fz s n) s < opF ow fz n s) then (n : Int) else mxF ow fz s n
theorem mxF_in (ow fz : Fn) (s : Int) : ∀ n : Nat, mxF ow fz s n = -1 ∨ (0 ≤ mxF ow fz s n ∧ mxF ow fz s n < n)
  | 0 => Or.inl rfl
  | n + 1 => by
    have := mxF_in ow fz s n
    unfold mxF
    split <;> omega
def pyS (fz : Fn) (s : Int) (x : Fn × Int) : Fn × Int := if 0 < x.2 ∧ mxF x.1 fz s 8 ≠ -1 then (adF (adF x.1 (mxF x.1 fz s 8) s (-(mn x.2 (opF x.1 fz (mxF x.1 fz s 8) s)))) (mxF x.1 fz s 8) 8 (mn x.2 (opF x.1 fz (mxF x.1 fz s 8) s)), x.2 - mn x.2 (opF x.1 fz (mxF x.1 fz s 8) s)) else x
def pyN (fz : Fn) (s : Int) (x : Fn × Int) : Nat → Fn × Int
  | 0 => x
  | n + 1 => pyS fz s (pyN fz s x n)
def pystuck (fz : Fn) (s : Int) (x : Fn × Int) : Prop := ¬ 0 < x.2 ∨ mxF x.1 fz s 8 = -1
theorem mxF_is (ow fz : Fn) (s : Int) : ∀ n : Nat, (mxF ow fz s n = -1 ∧ ∀ k : Int, 0 ≤ k → k < n → ¬ 0 < opF ow fz k s) ∨ (0 ≤ mxF ow fz s n ∧ mxF ow fz s n < n ∧ 0 < opF ow fz (mxF ow fz s n) s ∧ (∀ k : Int, 0 ≤ k → k < n → opF ow fz k s ≤ opF ow fz (mxF ow fz s n) s) ∧ ∀ k : Int, 0 ≤ k → k < mxF ow fz s n → opF ow fz k s < opF ow fz (mxF ow fz s n) s)
  | 0 => Or.inl ⟨rfl, fun k h1 h2 => by omega⟩
  | n + 1 => by
    have ih := mxF_is ow fz s n
    rw [mxF]
    by_cases q : 0 < opF ow fz n s ∧ (mxF ow fz s n = -1 ∨ opF ow fz (mxF ow fz s n) s < opF ow fz n s)
    · rw [if_pos q]
      have low : ∀ k : Int, 0 ≤ k → k < n → opF ow fz k s < opF ow fz n s := by
        intro k k0 k1
        rcases ih with ⟨h1, h2⟩ | ⟨h1, h2, h3, h4, h5⟩
        · have := h2 k k0 k1; omega
        · have := h4 k k0 k1
          rcases q.2 with z | z <;> omega
      refine Or.inr ⟨by omega, by omega, q.1, fun k k0 k1 => ?_, low⟩
      by_cases z : k = n
      · rw [z]; exact Int.le_refl _
      · exact Int.le_of_lt (low k k0 (by omega))
    · rw [if_neg q]
      rcases ih with ⟨h1, h2⟩ | ⟨h1, h2, h3, h4, h5⟩
      · refine Or.inl ⟨h1, fun k k0 k1 => ?_⟩
        by_cases z : k = n
        · rw [z]; exact fun w => q ⟨w, Or.inl h1⟩
        · exact h2 k k0 (by omega)
      · refine Or.inr ⟨h1, by omega, h3, fun k k0 k1 => ?_, h5⟩
        by_cases z : k = n
        · rw [z]
          by_cases w : 0 < opF ow fz n s
          · have : ¬ opF ow fz (mxF ow fz s n) s < opF ow fz n s := fun y => q ⟨w, Or.inr y⟩
            omega
          · omega
        · exact h4 k k0 (by omega)
def pyOk (fz : Fn) (x : Fn × Int) : Prop := OkD x.1 ∧ Fz x.1 fz ∧ -100000000 ≤ x.2 ∧ x.2 ≤ 100000000
theorem pyS_ok {fz : Fn} {s : Int} {x : Fn × Int} (hs : 0 ≤ s ∧ s < 8) (h : pyOk fz x) : pyOk fz (pyS fz s x) ∧ (¬ pystuck fz s x → (pyS fz s x).2 ≤ x.2 - 1) := by
  unfold pyS
  by_cases q : 0 < x.2 ∧ mxF x.1 fz s 8 ≠ -1
  · rw [if_pos q]
    have hm := mxF_is x.1 fz s 8
    have hn := mn_le x.2 (opF x.1 fz (mxF x.1 fz s 8) s)
    obtain ⟨h1, h2, h3, h4⟩ := h
    rcases hm with z | ⟨z1, z2, z3, -, -⟩
    · exact absurd z.1 q.2
    · have hp := pay_ok (ow := x.1) (fz := fz) (b := mxF x.1 fz s 8) (s := s) (m := mn x.2 (opF x.1 fz (mxF x.1 fz s 8) s)) (by omega) hs h1 h2 ⟨by omega, hn.2.1⟩
      exact ⟨⟨hp.1, hp.2, by show _ ≤ x.2 - _; omega, by show x.2 - _ ≤ _; omega⟩, fun _ => by show x.2 - _ ≤ _; omega⟩
  · rw [if_neg q]
    refine ⟨h, fun z => absurd ?_ z⟩
    unfold pystuck
    by_cases w : 0 < x.2
    · exact Or.inr (Decidable.of_not_not (fun y => q ⟨w, y⟩))
    · exact Or.inl w
theorem pyN_ok {fz : Fn} {s : Int} {x : Fn × Int} (hs : 0 ≤ s ∧ s < 8) (h : pyOk fz x) : ∀ n : Nat, pyOk fz (pyN fz s x n)
  | 0 => h
  | n + 1 => (pyS_ok hs (pyN_ok hs h n)).1
