/-! ===== rings: what the search has done so far ===== -/
def pth (S : Mem) : Fn := fun k => S 17 (rix (S 15 1) (2 + k))
def GS (S : Mem) : Int → Int → Bool := Gb (S 8) (S 10)
/-- the scratch row, from a place on, may differ -/
def agr (S : Mem) (n : Int) (h : Fn) : Prop := ∀ x : Int, ¬ (rix (S 15 1) n ≤ x ∧ x < rix (S 15 1) 7) → h x = S 17 x
def clP (S : Mem) (n r : Nat) (v : Int) (S' : Mem) : Prop := ∃ h : Fn, S' = mput S 17 h ∧ agr S (2 + n) h ∧ ((v = 1 ∧ dfs (GS S) (pth S 0) r (pl (pth S) n) = some (pl (pth S') (n + r))) ∨ (v = 0 ∧ dfs (GS S) (pth S 0) r (pl (pth S) n) = none))
def clF (G : Int → Int → Bool) (a : Int) (r : Nat) (l : List Int) (y : Int) : Option (List Int) := if (G (l.headD 0) y && !l.contains y) = true then dfs G a r (y :: l) else none
def clI (S : Mem) (n r : Nat) (y : Int) (S1 : Mem) : Prop := ∃ h : Fn, S1 = mput S 17 h ∧ agr S (2 + n) h ∧ pth S 0 + 1 ≤ y ∧ y ≤ 8 ∧ scan (clF (GS S) (pth S 0) r (pl (pth S) n)) y (8 - y).toNat = dfs (GS S) (pth S 0) (r + 1) (pl (pth S) n)
theorem mput17 {S : Mem} {h : Fn} : mput S 17 h 8 = S 8 ∧ mput S 17 h 10 = S 10 ∧ mput S 17 h 15 = S 15 ∧ mput S 17 h 17 = h := ⟨rfl, rfl, rfl, rfl⟩
theorem clP_v {S : Mem} {n r : Nat} {v : Int} {S' : Mem} (h : clP S n r v S') : v = 0 ∨ v = 1 := by
  obtain ⟨h, -, -, q | q⟩ := h
  · exact Or.inr q.1
  · exact Or.inl q.1
theorem clP_0 {S : Mem} {n : Nat} {v : Int} (hn : 1 ≤ n) (hv : v = if 0 < S 8 (ix (pth S ((n : Int) - 1)) (pth S 0)) - S 10 (ix (pth S ((n : Int) - 1)) (pth S 0)) then 1 else 0) : clP S n 0 v S := by
  refine ⟨S 17, (mput_self S 17).symm, fun x _ => rfl, ?_⟩
  rw [dfs, pl_head _ _ hn]
  unfold GS Gb
  simp only [decide_eq_true_eq]
  by_cases q : 0 < S 8 (ix (pth S ((n : Int) - 1)) (pth S 0)) - S 10 (ix (pth S ((n : Int) - 1)) (pth S 0))
  · rw [if_pos q] at hv ⊢
    exact Or.inl ⟨hv, rfl⟩
  · rw [if_neg q] at hv ⊢
    exact Or.inr ⟨hv, rfl⟩
theorem clI_0 {S : Mem} {n r : Nat} (h0 : 0 ≤ pth S 0 ∧ pth S 0 < 8) : clI S n r (pth S 0 + 1) S := by
  refine ⟨S 17, (mput_self S 17).symm, fun x _ => rfl, Int.le_refl _, by omega, ?_⟩
  rw [show (8 - (pth S 0 + 1)).toNat = (7 - pth S 0).toNat by omega]
  rfl
theorem clI_mem {S : Mem} {n r : Nat} {y : Int} {S1 : Mem} (h : clI S n r y S1) : S1 8 = S 8 ∧ S1 10 = S 10 ∧ S1 15 = S 15 ∧ pth S 0 + 1 ≤ y ∧ y ≤ 8 ∧ ∀ k : Int, 0 ≤ k → k < n → pth S1 k = pth S k := by
  obtain ⟨h, rfl, ha, h1, h2, -⟩ := h
  refine ⟨rfl, rfl, rfl, h1, h2, fun k k0 k1 => ?_⟩
  show h (rix (S 15 1) (2 + k)) = _
  refine ha _ (fun q => ?_)
  have := q.1
  unfold rix at this
  omega
theorem clI_skip {S : Mem} {n r : Nat} {y : Int} {S1 : Mem} (h : clI S n r y S1) (hy : y < 8) (hF : clF (GS S) (pth S 0) r (pl (pth S) n) y = none) : clI S n r (y + 1) S1 := by
  obtain ⟨h, e1, e2, e3, e4, e5⟩ := h
  refine ⟨h, e1, e2, by omega, by omega, ?_⟩
  rw [← e5, show (8 - y).toNat = (8 - (y + 1)).toNat + 1 by omega, scan_none hF]
theorem clF_no1 {S : Mem} {n r : Nat} {y : Int} (hn : 1 ≤ n) (h : ¬ 0 < S 8 (ix (pth S ((n : Int) - 1)) y) - S 10 (ix (pth S ((n : Int) - 1)) y)) : clF (GS S) (pth S 0) r (pl (pth S) n) y = none := by
  unfold clF
  rw [if_neg]
  rw [pl_head _ _ hn]
  unfold GS Gb
  rw [decide_eq_false h]
  simp
theorem clF_no2 {S : Mem} {n r : Nat} {y : Int} (h : anyI (fun k => decide (pth S k = y)) n = true) : clF (GS S) (pth S 0) r (pl (pth S) n) y = none := by
  unfold clF
  rw [if_neg]
  rw [pl_has, h]
  simp
theorem clF_go {S : Mem} {n r : Nat} {y : Int} (hn : 1 ≤ n) (h1 : 0 < S 8 (ix (pth S ((n : Int) - 1)) y) - S 10 (ix (pth S ((n : Int) - 1)) y)) (h : anyI (fun k => decide (pth S k = y)) n = false) : clF (GS S) (pth S 0) r (pl (pth S) n) y = dfs (GS S) (pth S 0) r (y :: pl (pth S) n) := by
  unfold clF
  rw [if_pos]
  rw [pl_has, h, pl_head _ _ hn]
  unfold GS Gb
  rw [decide_eq_true h1]
  rfl
def put17 (S : Mem) (k v : Int) : Mem := mput S 17 (up (S 17) (rix (S 15 1) k) v)
theorem put17_at {S : Mem} {k v : Int} : pth (put17 S (2 + k) v) k = v := up_same _ _ _
theorem put17_ne {S : Mem} {k v j : Int} (h : j ≠ k) : pth (put17 S (2 + k) v) j = pth S j := up_ne (by unfold rix; show 7 * S 15 1 + (2 + j) ≠ 7 * S 15 1 + (2 + k); omega)
theorem cl_set {S : Mem} {n r : Nat} {y : Int} {S1 : Mem} (h : clI S n r y S1) (hn : 1 ≤ n) : pth (put17 S1 (2 + n) y) 0 = pth S 0 ∧ pl (pth (put17 S1 (2 + n) y)) (n + 1) = y :: pl (pth S) n ∧ GS (put17 S1 (2 + n) y) = GS S ∧ (∀ k : Int, 0 ≤ k → k < n → pth (put17 S1 (2 + n) y) k = pth S k) := by
  have hm := clI_mem h
  have e : ∀ k : Int, 0 ≤ k → k < n → pth (put17 S1 (2 + n) y) k = pth S k := fun k k0 k1 => by rw [put17_ne (by omega), hm.2.2.2.2.2 k k0 k1]
  refine ⟨e 0 (Int.le_refl 0) (by omega), ?_, ?_, e⟩
  · rw [pl, put17_at, pl_cong e]
  · show Gb (S1 8) (S1 10) = _
    rw [hm.1, hm.2.1]
    rfl
theorem cl_back {S : Mem} {n r : Nat} {y v : Int} {S1 S3 : Mem} (h : clI S n r y S1) (hn : 1 ≤ n) (hy : y < 8) (hr : n + 1 + r ≤ 5) (h1 : 0 < S 8 (ix (pth S ((n : Int) - 1)) y) - S 10 (ix (pth S ((n : Int) - 1)) y)) (h2 : anyI (fun k => decide (pth S k = y)) n = false) (hp : clP (put17 S1 (2 + n) y) (n + 1) r v S3) : (v = 0 → clI S n r (y + 1) S3) ∧ (v ≠ 0 → clP S n (r + 1) 1 S3) := by
  have hs := cl_set h hn
  have hgo := clF_go (r := r) hn h1 h2
  obtain ⟨h, e1, e2, e3, e4, e5⟩ := h
  obtain ⟨h3, f1, f2, f3⟩ := hp
  rw [hs.1, hs.2.1, hs.2.2.1] at f3
  have hS3 : S3 = mput S 17 h3 := by
    rw [f1, e1]
    unfold put17
    rw [mput_mput, mput_mput]
  have hag : agr S (2 + n) h3 := by
    intro x hx
    have g1 : (put17 S1 (2 + n) y) 17 x = S 17 x := by
      subst e1
      show up h (rix (S 15 1) (2 + n)) y x = _
      have : x ≠ rix (S 15 1) (2 + n) := fun q => hx (by
        unfold rix at q ⊢
        omega)
      rw [up_ne this]
      exact e2 x hx
    rw [← g1]
    refine f2 x (fun q => hx ?_)
    have g2 : (put17 S1 (2 + n) y) 15 1 = S 15 1 := by subst e1; rfl
    rw [g2] at q
    unfold rix at q ⊢
    omega
  constructor
  · intro v0
    refine ⟨h3, hS3, hag, by omega, by omega, ?_⟩
    rw [← e5, show (8 - y).toNat = (8 - (y + 1)).toNat + 1 by omega, scan_none]
    rw [hgo]
    rcases f3 with q | q
    · omega
    · exact q.2
  · intro v0
    refine ⟨h3, hS3, hag, Or.inl ⟨rfl, ?_⟩⟩
    rw [← e5, show (8 - y).toNat = (8 - (y + 1)).toNat + 1 by omega]
    rcases f3 with q | q
    · rw [scan_some (hgo.trans q.2), show n + (r + 1) = n + 1 + r by omega]
    · omega
theorem cl_end {S : Mem} {n r : Nat} {S1 : Mem} (h : clI S n r 8 S1) : clP S n (r + 1) 0 S1 := by
  obtain ⟨h, e1, e2, e3, e4, e5⟩ := h
  exact ⟨h, e1, e2, Or.inr ⟨rfl, e5.symm⟩⟩
/-! the search over all lengths and first shops -/
def fiZ (S : Mem) (z : Int) : Option (List Int) := scan (fun a => dfs (GS S) a (z - 1).toNat [a]) 0 8
def fiI (S : Mem) (z : Int) (S1 : Mem) : Prop := ∃ h : Fn, S1 = mput S 17 h ∧ agr S 0 h ∧ 2 ≤ z ∧ z ≤ 6 ∧ scan (fiZ S) z (6 - z).toNat = fnd (GS S)
def fjI (S : Mem) (z y : Int) (S1 : Mem) : Prop := ∃ h : Fn, S1 = mput S 17 h ∧ agr S 0 h ∧ h (rix (S 15 1) 0) = z ∧ 0 ≤ y ∧ y ≤ 8 ∧ 2 ≤ z ∧ z ≤ 5 ∧ scan (fun a => dfs (GS S) a (z - 1).toNat [a]) y (8 - y).toNat = fiZ S z ∧ scan (fiZ S) z (6 - z).toNat = fnd (GS S)
def fiP (S : Mem) (v : Int) (S' : Mem) : Prop := ∃ h : Fn, S' = mput S 17 h ∧ agr S 0 h ∧ ((v = 1 ∧ ∃ n : Nat, fnd (GS S) = some (pl (pth S') n) ∧ S' 17 (rix (S 15 1) 0) = n) ∨ (v = 0 ∧ fnd (GS S) = none))
theorem fiI_0 (S : Mem) : fiI S 2 S := ⟨S 17, (mput_self S 17).symm, fun x _ => rfl, by omega, by omega, rfl⟩
theorem fiI_mem {S : Mem} {z : Int} {S1 : Mem} (h : fiI S z S1) : S1 8 = S 8 ∧ S1 10 = S 10 ∧ S1 15 = S 15 := by
  obtain ⟨h, rfl, -⟩ := h
  exact ⟨rfl, rfl, rfl⟩
theorem fjI_mem {S : Mem} {z y : Int} {S1 : Mem} (h : fjI S z y S1) : S1 8 = S 8 ∧ S1 10 = S 10 ∧ S1 15 = S 15 := by
  obtain ⟨h, rfl, -⟩ := h
  exact ⟨rfl, rfl, rfl⟩
theorem fjI_0 {S : Mem} {z : Int} {S1 : Mem} (h : fiI S z S1) (hz : z ≤ 5) : fjI S z 0 (put17 S1 0 z) := by
  obtain ⟨h, rfl, e2, e3, e4, e5⟩ := h
  refine ⟨up h (rix (S 15 1) 0) z, ?_, fun x hx => ?_, up_same _ _ _, Int.le_refl 0, by omega, e3, hz, rfl, e5⟩
  · show mput (mput S 17 h) 17 _ = _
    rw [mput_mput]
    rfl
  · rw [up_ne (fun q => hx (by unfold rix at q ⊢; omega))]
    exact e2 x hx
theorem fj_back {S : Mem} {z y v : Int} {S1 S3 : Mem} (h : fjI S z y S1) (hy : y < 8) (hp : clP (put17 S1 (2 + 0) y) 1 (z - 1).toNat v S3) : (v = 0 → fjI S z (y + 1) S3) ∧ (v ≠ 0 → fiP S 1 S3) := by
  obtain ⟨h, rfl, e2, e3, e4, e5, e6, e7, e8, e9⟩ := h
  obtain ⟨h3, rfl, f2, f3⟩ := hp
  have p0 : pth (put17 (mput S 17 h) (2 + 0) y) 0 = y := put17_at
  have p1 : pl (pth (put17 (mput S 17 h) (2 + 0) y)) 1 = [y] := by
    show [pth (put17 (mput S 17 h) (2 + 0) y) ((0 : Nat) : Int)] = [y]
    exact congrArg (fun q => [q]) p0
  have p2 : GS (put17 (mput S 17 h) (2 + 0) y) = GS S := rfl
  rw [p0, p1, p2] at f3
  have hS3 : mput (put17 (mput S 17 h) (2 + 0) y) 17 h3 = mput S 17 h3 := by
    unfold put17
    rw [mput_mput, mput_mput]
  have hag : agr S 0 h3 := by
    intro x hx
    have g1 : (put17 (mput S 17 h) (2 + 0) y) 17 x = S 17 x := by
      show up h (rix (S 15 1) (2 + 0)) y x = _
      rw [up_ne (fun q => hx (by unfold rix at q ⊢; omega))]
      exact e2 x hx
    rw [← g1]
    refine f2 x (fun q => hx ?_)
    have g2 : (put17 (mput S 17 h) (2 + 0) y) 15 1 = S 15 1 := rfl
    rw [g2] at q
    unfold rix at q ⊢
    omega
  have hz0 : h3 (rix (S 15 1) 0) = z := by
    have g1 : (put17 (mput S 17 h) (2 + 0) y) 17 (rix (S 15 1) 0) = z := by
      show up h (rix (S 15 1) (2 + 0)) y (rix (S 15 1) 0) = _
      rw [up_ne (by unfold rix; omega)]
      exact e3
    rw [← g1]
    refine f2 _ (fun q => ?_)
    have g2 : (put17 (mput S 17 h) (2 + 0) y) 15 1 = S 15 1 := rfl
    rw [g2] at q
    unfold rix at q
    omega
  have hsc : (8 - y).toNat = (8 - (y + 1)).toNat + 1 := by omega
  rw [hS3] at f3 ⊢
  constructor
  · intro v0
    refine ⟨h3, rfl, hag, hz0, by omega, by omega, e6, e7, ?_, e9⟩
    rw [← e8, hsc, scan_none]
    rcases f3 with q | q
    · omega
    · exact q.2
  · intro v0
    refine ⟨h3, rfl, hag, Or.inl ⟨rfl, 1 + (z - 1).toNat, ?_, ?_⟩⟩
    · rw [← e9, show (6 - z).toNat = (5 - z).toNat + 1 by omega]
      apply scan_some
      rw [← e8, hsc]
      rcases f3 with q | q
      · exact scan_some q.2
      · omega
    · show h3 (rix (S 15 1) 0) = _
      rw [hz0]
      omega
theorem fi_next {S : Mem} {z : Int} {S1 : Mem} (h : fjI S z 8 S1) : fiI S (z + 1) S1 := by
  obtain ⟨h, e1, e2, e3, e4, e5, e6, e7, e8, e9⟩ := h
  refine ⟨h, e1, e2, by omega, by omega, ?_⟩
  rw [← e9, show (6 - z).toNat = (6 - (z + 1)).toNat + 1 by omega]
  exact (scan_none e8.symm).symm
theorem fi_end {S : Mem} {S1 : Mem} (h : fiI S 6 S1) : fiP S 0 S1 := by
  obtain ⟨h, e1, e2, e3, e4, e5⟩ := h
  exact ⟨h, e1, e2, Or.inr ⟨rfl, e5.symm⟩⟩
theorem anyI_cong {p q : Int → Bool} : ∀ {n : Nat}, (∀ k : Int, 0 ≤ k → k < n → p k = q k) → anyI p n = anyI q n
  | 0, _ => rfl
  | n + 1, h => by rw [anyI, anyI, anyI_cong (n := n) (fun k a b => h k a (by omega)), h n (by omega) (by omega)]
theorem cl_rng {S : Mem} {n r : Nat} {y : Int} {S1 : Mem} (h : clI S n r y S1) (hn : 1 ≤ n) (hp : ∀ k : Int, 0 ≤ k → k < n → 0 ≤ pth S k ∧ pth S k < 8) (hy : 0 ≤ y ∧ y < 8) : ∀ k : Int, 0 ≤ k → k < ((n + 1 : Nat) : Int) → 0 ≤ pth (put17 S1 (2 + n) y) k ∧ pth (put17 S1 (2 + n) y) k < 8 := by
  intro k k0 k1
  by_cases q : k < n
  · rw [(cl_set h hn).2.2.2 k k0 q]
    exact hp k k0 q
  · rw [show k = (n : Int) by omega, put17_at]
    exact hy
