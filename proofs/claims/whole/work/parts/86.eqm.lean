/-! ===== class and reference do the same: passing on ===== -/
theorem psF_zero {s d c : Int} {f : Fn} (h : mn (f (ix d s)) (f (ix s c)) = 0) : psF s d c f = f := by
  unfold psF
  rw [h]
  unfold tkF
  rw [Int.neg_zero]
  split
  · rw [adF_0, adF_0]
  · rw [adF_0, adF_0, adF_0]
def psP (s : Int) (ow : Fn) (d c : Int) (f : Fn) : Prop := (∃ n, f = psN s ow n) ∧ OkD f ∧ ((∀ k : Int, 0 ≤ k → k < d → f (ix k s) = 0) ∨ (∀ k : Int, 0 ≤ k → k < 9 → f (ix s k) = 0)) ∧ ((∀ k : Int, 0 ≤ k → k < c → f (ix s k) = 0) ∨ f (ix d s) = 0)
theorem psP_step {s d c : Int} {ow f : Fn} (hs : 0 ≤ s ∧ s < 9) (hd : 0 ≤ d ∧ d < 8) (hc : 0 ≤ c ∧ c < 9) (h : psP s ow d c f) : psP s ow d (c + 1) (psF s d c f) := by
  obtain ⟨⟨n, hn⟩, hok, h1, h2⟩ := h
  have e1 := hok.1.ent (i := d) (j := s) (by omega) hs
  have e2 := hok.1.ent (i := s) (j := c) hs hc
  have hm := mn_le (f (ix d s)) (f (ix s c))
  by_cases hz : mn (f (ix d s)) (f (ix s c)) = 0
  · rw [psF_zero hz]
    refine ⟨⟨n, hn⟩, hok, h1, ?_⟩
    rcases h2 with h2 | h2
    · by_cases q : f (ix d s) = 0
      · exact Or.inr q
      · refine Or.inl (fun k k0 k1 => ?_)
        by_cases qk : k = c
        · rw [qk]; omega
        · exact h2 k k0 (by omega)
    · exact Or.inr h2
  · have hds : d ≠ s := fun q => by
      have := hok.2 s hs.1 hs.2
      rw [q] at e1 hz hm
      omega
    have hcs : c ≠ s := fun q => by
      have := hok.2 s hs.1 hs.2
      rw [q] at e2 hz hm
      omega
    have g1 : ∀ k : Int, 0 ≤ k → k < d → f (ix k s) = 0 := by
      rcases h1 with h1 | h1
      · exact h1
      · have := h1 c hc.1 hc.2
        omega
    have g2 : ∀ k : Int, 0 ≤ k → k < c → f (ix s k) = 0 := by
      rcases h2 with h2 | h2
      · exact h2
      · omega
    have hl : ldF f s = d := by
      rcases ldF_is f s with ⟨-, q⟩ | ⟨q1, q2, q3, q4⟩
      · have := q d hd.1 hd.2
        omega
      · rcases Int.lt_trichotomy (ldF f s) d with z | z | z
        · have := g1 _ q1 z
          omega
        · exact z
        · have := q4 d hd.1 z
          omega
    have hr : lcF f s = c := by
      rcases lcF_is f s with ⟨-, q⟩ | ⟨q1, q2, q3, q4⟩
      · have := q c hc.1 hc.2
        omega
      · rcases Int.lt_trichotomy (lcF f s) c with z | z | z
        · have := g2 _ q1 z
          omega
        · exact z
        · have := q4 c hc.1 z
          omega
    have hst : psF s d c f = pst s f := by
      unfold pst
      rw [hl, hr, if_pos (by omega)]
    have f1 : ∀ k : Int, 0 ≤ k → k < 9 → psF s d c f (ix k s) = f (ix k s) + if k = d then -(mn (f (ix d s)) (f (ix s c))) else 0 := fun k k0 k9 => by
      rw [psF_get hs hc hs, if_neg (by omega : ¬ (k = s ∧ s = c)), if_neg (by omega : ¬ (d ≠ c ∧ k = d ∧ s = c)), Int.add_zero, Int.add_zero]
      simp
    have f2 : ∀ k : Int, 0 ≤ k → k < 9 → psF s d c f (ix s k) = f (ix s k) + if k = c then -(mn (f (ix d s)) (f (ix s c))) else 0 := fun k k0 k9 => by
      rw [psF_get hs hc ⟨k0, k9⟩, if_neg (by omega : ¬ (s = d ∧ k = s)), if_neg (by omega : ¬ (d ≠ c ∧ s = d ∧ k = c)), Int.add_zero, Int.add_zero]
      simp
    refine ⟨⟨n + 1, by rw [hst, hn]; rfl⟩, psF_ok hs (by omega) hc hok, Or.inl (fun k k0 k1 => ?_), ?_⟩
    · rw [f1 k k0 (by omega), if_neg (by omega), g1 k k0 k1]; rfl
    · have a1 := f1 d (by omega) (by omega)
      have a2 := f2 c hc.1 hc.2
      rw [if_pos rfl] at a1 a2
      rcases hm.2.2 with q | q
      · exact Or.inr (by omega)
      · refine Or.inl (fun k k0 k1 => ?_)
        by_cases qk : k = c
        · rw [qk]; omega
        · rw [f2 k k0 (by omega), if_neg qk, g2 k k0 (by omega)]; rfl
theorem psI_P {s d : Int} {ow f : Fn} (hs : 0 ≤ s ∧ s < 9) (hd : 0 ≤ d ∧ d < 8) (h : psP s ow d 0 f) : ∀ n : Nat, n ≤ 9 → psP s ow d n (psI s d f n)
  | 0, _ => h
  | n + 1, hn => psP_step hs hd (by omega) (psI_P hs hd h n (by omega))
theorem psO_P {s : Int} {ow : Fn} (hs : 0 ≤ s ∧ s < 9) (h : OkD ow) : ∀ n : Nat, n ≤ 8 → psP s ow n 0 (psO s ow n)
  | 0, _ => ⟨⟨0, rfl⟩, h, Or.inl (fun k a b => by omega), Or.inl (fun k a b => by omega)⟩
  | n + 1, hn => by
    have e := psI_P hs (by omega) (psO_P hs h n (by omega)) 9 (Nat.le_refl 9)
    obtain ⟨e0, e1, e2, e3⟩ := e
    refine ⟨e0, e1, ?_, Or.inl (fun k a b => by omega)⟩
    rcases e2 with e2 | e2
    · rcases e3 with e3 | e3
      · exact Or.inr e3
      · refine Or.inl (fun k k0 k1 => ?_)
        by_cases qk : k = n
        · rw [qk]; exact e3
        · exact e2 k k0 (by omega)
    · exact Or.inr e2
theorem psO_is {s : Int} {ow : Fn} (hs : 0 ≤ s ∧ s < 9) (h : OkD ow) : psO s ow 8 = psE s ow := by
  obtain ⟨⟨n, hn⟩, h1, h2, -⟩ := psO_P hs h 8 (Nat.le_refl 8)
  rw [hn] at h1 h2 ⊢
  refine psE_is hs h ?_
  rcases h2 with q | q
  · refine Or.inl ?_
    rcases ldF_is (psN s ow n) s with z | ⟨z1, z2, z3, -⟩
    · exact z.1
    · have := q _ z1 (by omega)
      omega
  · refine Or.inr ?_
    rcases lcF_is (psN s ow n) s with z | ⟨z1, z2, z3, -⟩
    · exact z.1
    · have := q _ z1 z2
      omega
