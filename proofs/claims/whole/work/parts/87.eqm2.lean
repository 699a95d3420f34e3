/-! ===== class and reference do the same: what is owed in goods ===== -/
theorem up_get (f : Fn) (k v x : Int) : up f k v x = if x = k then v else f x := rfl
theorem adF_neg (f : Fn) (i j : Int) : adF f i j (-(f (ix i j))) = up f (ix i j) 0 := by
  unfold adF
  rw [Int.add_right_neg]
/-- what is left of a table when a shop's row, up to n, and its column, up to m, are cleared -/
def wpF (s : Int) (n m : Nat) (f : Fn) : Fn := fun x => if (9 * s ≤ x ∧ x < 9 * s + n) ∨ (s ≤ x ∧ x < 9 * m + s ∧ (x - s) % 9 = 0) then 0 else f x
theorem wpF_row {s : Int} {n m : Nat} {f : Fn} : up (wpF s n m f) (ix s n) 0 = wpF s (n + 1) m f := by
  funext x
  rw [up_get]
  unfold wpF ix
  by_cases q : x = 9 * s + n
  · rw [if_pos q, if_pos (by omega)]
  · rw [if_neg q]
    by_cases q2 : (9 * s ≤ x ∧ x < 9 * s + (n : Int)) ∨ (s ≤ x ∧ x < 9 * (m : Int) + s ∧ (x - s) % 9 = 0)
    · rw [if_pos q2, if_pos (by omega)]
    · rw [if_neg q2, if_neg (by omega)]
theorem wpF_col {s : Int} {n m : Nat} {f : Fn} : up (wpF s n m f) (ix m s) 0 = wpF s n (m + 1) f := by
  funext x
  rw [up_get]
  unfold wpF ix
  by_cases q : x = 9 * (m : Int) + s
  · rw [if_pos q, if_pos (by omega)]
  · rw [if_neg q]
    by_cases q2 : (9 * s ≤ x ∧ x < 9 * s + (n : Int)) ∨ (s ≤ x ∧ x < 9 * (m : Int) + s ∧ (x - s) % 9 = 0)
    · rw [if_pos q2, if_pos (by omega)]
    · rw [if_neg q2, if_neg (by omega)]
theorem wpF_0 (s : Int) (f : Fn) : wpF s 0 0 f = f := by
  funext x
  unfold wpF
  rw [if_neg (by omega)]
theorem wpF_89 {s : Int} {f : Fn} {n : Nat} (h : f (ix 8 s) = 0) : wpF s n 9 f = wpF s n 8 f := by
  rw [← wpF_col (m := 8)]
  funext x
  rw [up_get]
  split
  · rename_i q
    rw [q]
    unfold wpF
    split
    · rfl
    · exact h.symm
  · rfl
theorem gbI_is {s : Int} {f gu : Fn} : ∀ n : Nat, n ≤ 9 → (gbI s (f, gu, 0) n).1 = wpF s n 0 f ∧ (gbI s (f, gu, 0) n).2.2 = sI (fun c => f (ix s c)) n
  | 0, _ => ⟨(wpF_0 s f).symm, rfl⟩
  | n + 1, hn => by
    obtain ⟨e1, e2⟩ := gbI_is n (by omega)
    show (gbF s n (gbI s (f, gu, 0) n)).1 = _ ∧ (gbF s n (gbI s (f, gu, 0) n)).2.2 = _
    have e3 : (gbI s (f, gu, 0) n).1 (ix s n) = f (ix s n) := by
      rw [e1]
      unfold wpF ix
      rw [if_neg (by omega)]
    refine ⟨?_, ?_⟩
    · show adF _ s n (-(_)) = _
      rw [adF_neg, e1, wpF_row]
    · show _ + _ = _
      rw [e2, e3]; rfl
theorem gtI_is {s : Int} {f gu : Fn} (hs : 0 ≤ s ∧ s < 9) (hz : f (ix s s) = 0) : ∀ m : Nat, m ≤ 8 → (gtI s (wpF s 9 0 f, gu, 0) m).1 = wpF s 9 m f ∧ (gtI s (wpF s 9 0 f, gu, 0) m).2.2 = sI (fun c => f (ix c s)) m
  | 0, _ => ⟨rfl, rfl⟩
  | m + 1, hm => by
    obtain ⟨e1, e2⟩ := gtI_is hs hz m (by omega)
    show (gtF s m (gtI s (wpF s 9 0 f, gu, 0) m)).1 = _ ∧ (gtF s m (gtI s (wpF s 9 0 f, gu, 0) m)).2.2 = _
    have e3 : (gtI s (wpF s 9 0 f, gu, 0) m).1 (ix m s) = f (ix m s) := by
      rw [e1]
      by_cases q : (m : Int) = s
      · rw [q, hz]
        unfold wpF ix
        rw [if_pos (by omega)]
      · unfold wpF ix
        rw [if_neg (by omega)]
    refine ⟨?_, ?_⟩
    · show adF _ m s (-(_)) = _
      rw [adF_neg, e1, wpF_col]
    · show _ + _ = _
      rw [e2, e3]; rfl
theorem rlI_is {s : Int} {f u : Fn} {g0 : Int} (hs : 0 ≤ s ∧ s < 9) : ∀ n : Nat, n ≤ 9 → (rlI s (f, u, g0, 0) n).1 = wpF s n n f ∧ (rlI s (f, u, g0, 0) n).2.1 = wpF s n n u ∧ (f (ix s s) = 0 → (rlI s (f, u, g0, 0) n).2.2.1 = g0 + sI (fun c => f (ix s c) - f (ix c s)) n ∧ (rlI s (f, u, g0, 0) n).2.2.2 = sI (fun c => f (ix s c) + f (ix c s)) n)
  | 0, _ => ⟨(wpF_0 s f).symm, (wpF_0 s u).symm, fun _ => ⟨(Int.add_zero g0).symm, rfl⟩⟩
  | n + 1, hn => by
    obtain ⟨e1, e2, e3⟩ := rlI_is (f := f) (u := u) (g0 := g0) hs n (by omega)
    show (rlF s n (rlI s (f, u, g0, 0) n)).1 = _ ∧ (rlF s n (rlI s (f, u, g0, 0) n)).2.1 = _ ∧ (_ → (rlF s n (rlI s (f, u, g0, 0) n)).2.2.1 = _ ∧ (rlF s n (rlI s (f, u, g0, 0) n)).2.2.2 = _)
    refine ⟨?_, ?_, fun hz => ?_⟩
    · show up (up _ _ 0) _ 0 = _
      rw [e1, wpF_row, wpF_col]
    · show up (up _ _ 0) _ 0 = _
      rw [e2, wpF_row, wpF_col]
    · obtain ⟨e4, e5⟩ := e3 hz
      have a1 : (rlI s (f, u, g0, 0) n).1 (ix s n) = f (ix s n) := by
        rw [e1]
        by_cases q : (n : Int) = s
        · rw [q, hz]
          unfold wpF
          split <;> first | rfl | exact hz
        · unfold wpF ix
          rw [if_neg (by omega)]
      have a2 : (rlI s (f, u, g0, 0) n).1 (ix n s) = f (ix n s) := by
        rw [e1]
        by_cases q : (n : Int) = s
        · rw [q, hz]
          unfold wpF
          split <;> first | rfl | exact hz
        · unfold wpF ix
          rw [if_neg (by omega)]
      refine ⟨?_, ?_⟩
      · show _ + (_ - _) = _
        rw [e4, a1, a2, sI]; omega
      · show _ + (_ + _) = _
        rw [e5, a1, a2]; rfl
