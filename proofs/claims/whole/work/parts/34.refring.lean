/-! ===== the reference's rings ===== -/
def GR (S : Mem) : Int → Int → Bool := Gb (S 20) (S 21)
def cb0 (S : Mem) (x : Int) : Bool := decide (x = 0) || (decide (S 31 0 < S 31 x) && GR S (S 31 (x - 1)) (S 31 x))
def cbR (S : Mem) (p : Nat) : Bool := cb0 S p && !anyI (fun k => decide (S 31 k = S 31 p)) p
def nxt (m k : Int) : Int := if k + 1 < m then k + 1 else 0
def ok0 (S : Mem) (m k : Int) : Bool := GR S (S 31 k) (S 31 (nxt m k)) && (decide (k = 0) || decide (S 31 0 < S 31 k))
def okK (S : Mem) (m : Int) (k : Int) : Bool := ok0 S m k && !anyI (fun i => decide (S 31 i = S 31 k)) k.toNat
def irR (S : Mem) (m : Nat) : Bool := !anyI (fun k => !okK S m k) m
theorem nxt_rem {m k : Int} (h0 : 0 ≤ k) (h1 : k < m) : k + 1 - (k + 1).tdiv m * m = nxt m k := by
  unfold nxt
  have e : k + 1 - (k + 1).tdiv m * m = (k + 1).tmod m := by
    have := Int.tmod_add_tdiv_mul (k + 1) m
    omega
  rw [e]
  split
  · exact Int.tmod_eq_of_lt (by omega) (by omega)
  · rw [show k + 1 = m by omega, Int.tmod_self]
def lyG (G : Int → Int → Bool) (m : Nat) : Option (List Int) := scan (fun a => dfs G a (m - 1) [a]) 0 8
def lyF (G : Int → Int → Bool) (a : Int) (r : Nat) (l : List Int) (y : Int) : Option (List Int) := if a < y then clF G a r l y else none
def lyV (G : Int → Int → Bool) (m : Nat) (p : Fn) : Nat → Int → Option (List Int)
  | 0, y => dfs G y (m - 1) [y]
  | k + 1, y => lyF G (p 0) (m - 2 - k) (pl p (k + 1)) y
def lyR (G : Int → Int → Bool) (m : Nat) (p : Fn) : Nat → Option (List Int)
  | 0 => none
  | k + 1 => match scan (lyV G m p k) (p k + 1) (8 - (p k + 1)).toNat with
    | some x => some x
    | none => lyR G m p k
theorem lyV_cong {G : Int → Int → Bool} {m : Nat} {p q : Fn} {k : Nat} (h : ∀ i : Int, 0 ≤ i → i < k → p i = q i) : lyV G m p k = lyV G m q k := by
  cases k with
  | zero => rfl
  | succ k =>
    funext y
    rw [lyV, lyV, h 0 (Int.le_refl 0) (by omega), pl_cong h]
theorem lyR_cong {G : Int → Int → Bool} {m : Nat} {p q : Fn} : ∀ {n : Nat}, (∀ i : Int, 0 ≤ i → i < n → p i = q i) → lyR G m p n = lyR G m q n
  | 0, _ => rfl
  | n + 1, h => by
    rw [lyR, lyR, lyV_cong (q := q) (fun i a b => h i a (by omega)), h n (by omega) (by omega), lyR_cong (n := n) (fun i a b => h i a (by omega))]
theorem ly_open {G : Int → Int → Bool} {m : Nat} {p : Fn} {k : Nat} {y : Int} (hy : y = p k + 1) (h8 : y < 8) : lyR G m p (k + 1) = match lyV G m p k y with
    | some x => some x
    | none => lyR G m (up p k y) (k + 1) := by
  have e1 : ∀ i : Int, 0 ≤ i → i < k → up p k y i = p i := fun i a b => up_ne (by omega)
  rw [lyR, lyR, lyV_cong (p := up p k y) (q := p) e1, up_same, lyR_cong (p := up p k y) (q := p) e1, ← hy, show (8 - y).toNat = (8 - (y + 1)).toNat + 1 by omega]
  cases hF : lyV G m p k y with
  | some x => rw [scan_some hF]
  | none => rw [scan_none hF]
theorem scan_nothing {α : Type} {F : Int → Option α} : ∀ {n : Nat} {a : Int}, (∀ k : Int, a ≤ k → k < a + n → F k = none) → scan F a n = none
  | 0, _, _ => rfl
  | n + 1, a, h => by rw [scan_none (h a (by omega) (by omega)), scan_nothing (n := n) (a := a + 1) (fun k h1 h2 => h k (by omega) (by omega))]
theorem ly_close {G : Int → Int → Bool} {m : Nat} {p : Fn} {k : Nat} {y J : Int} (hm : 2 ≤ m) (hy : y = p k + 1) (hJ : y = J) (h0 : 0 ≤ y) (hz : ∀ i j : Int, 0 ≤ j → j < 8 → (J ≤ i ∨ J ≤ j) → G i j = false) : lyR G m p (k + 1) = lyR G m (up p k y) k := by
  have e1 : ∀ i : Int, 0 ≤ i → i < k → up p k y i = p i := fun i a b => up_ne (by omega)
  rw [lyR, lyR_cong (p := up p k y) (q := p) e1, scan_nothing]
  intro z hz1 hz2
  cases k with
  | zero =>
    rw [lyV]
    obtain ⟨r, hr⟩ : ∃ r, m - 1 = r + 1 := ⟨m - 2, by omega⟩
    rw [hr, dfs]
    apply scan_nothing
    intro w w1 w2
    rw [if_neg]
    rw [hz ([z].headD 0) w (by omega) (by omega) (Or.inl (by show J ≤ z; omega))]
    simp
  | succ k =>
    rw [lyV]
    unfold lyF clF
    split
    · rw [if_neg]
      rw [hz _ z (by omega) (by omega) (Or.inr (by omega))]
      simp
    · rfl
theorem lyF_scan {G : Int → Int → Bool} {a : Int} {r : Nat} {l : List Int} (ha : 0 ≤ a ∧ a < 8) : scan (lyF G a r l) 0 8 = dfs G a (r + 1) l := by
  have drop : ∀ (n : Nat) (b : Int), 0 ≤ b → b + n = a + 1 → scan (lyF G a r l) b (8 - b).toNat = scan (lyF G a r l) (a + 1) (7 - a).toNat := by
    intro n
    induction n with
    | zero => intro b h0 h1; rw [show b = a + 1 by omega, show (8 - (a + 1)).toNat = (7 - a).toNat by omega]
    | succ n ih =>
      intro b h0 h1
      rw [show (8 - b).toNat = (8 - (b + 1)).toNat + 1 by omega, scan_none (by unfold lyF; rw [if_neg (by omega)])]
      exact ih (b + 1) (by omega) (by omega)
  have h1 := drop (a + 1).toNat 0 (Int.le_refl 0) (by omega)
  rw [show ((8 : Int) - 0).toNat = 8 from rfl] at h1
  rw [h1, dfs]
  apply scan_cong
  intro k k1 k2
  unfold lyF clF
  rw [if_pos (by omega)]
/-- what the search of the reference has done so far -/
def lyI (S : Mem) (m n : Nat) (S1 : Mem) : Prop := ∃ h : Fn, S1 = mput S 31 h ∧ (∀ k, -1 ≤ h k ∧ h k ≤ 8) ∧ n ≤ m ∧ (∀ k : Int, 0 ≤ k → k < (n : Int) - 1 → 0 ≤ h k ∧ h k < S 18 1) ∧ (1 ≤ n → h ((n : Int) - 1) < S 18 1) ∧ (2 ≤ n → VP (GR S) (h 0) (pl h (n - 1))) ∧ lyR (GR S) m h n = lyG (GR S) m
def lyP (S : Mem) (m : Nat) (v : Int) (S' : Mem) : Prop := ∃ h : Fn, S' = mput S 31 h ∧ (∀ k, -1 ≤ h k ∧ h k ≤ 8) ∧ ((v = 1 ∧ lyG (GR S) m = some (pl h m)) ∨ (v = 0 ∧ lyG (GR S) m = none))
def wt (n : Int) : Int := if n = 0 then 10000 else if n = 1 then 1000 else if n = 2 then 100 else if n = 3 then 10 else 1
def mu (p : Fn) : Nat → Int
  | 0 => 0
  | n + 1 => mu p n + (8 - p n) * wt n
theorem wt_pos (n : Int) : 1 ≤ wt n := by
  unfold wt
  repeat' split
  all_goals omega
theorem mu_cong {p q : Fn} : ∀ {n : Nat}, (∀ i : Int, 0 ≤ i → i < n → p i = q i) → mu p n = mu q n
  | 0, _ => rfl
  | n + 1, h => by rw [mu, mu, mu_cong (n := n) (fun i a b => h i a (by omega)), h n (by omega) (by omega)]
theorem mu_nn {p : Fn} (h : ∀ k, -1 ≤ p k ∧ p k ≤ 8) : ∀ n : Nat, 0 ≤ mu p n
  | 0 => Int.le_refl 0
  | n + 1 => by
    have h1 := mu_nn h n
    have h2 := wt_pos n
    have h3 := h n
    have h4 : 0 ≤ (8 - p n) * wt n := Int.mul_nonneg (by omega) (by omega)
    rw [mu]; omega
theorem mu_inc {p : Fn} {k : Nat} {y : Int} (hy : y = p k + 1) : mu (up p k y) (k + 1) = mu p (k + 1) - wt k ∧ mu (up p k y) k = mu p k := by
  have e : mu (up p k y) k = mu p k := mu_cong (fun i a b => up_ne (by omega))
  refine ⟨?_, e⟩
  rw [mu, mu, e, up_same, hy, show (8 : Int) - (p k + 1) = (8 - p k) - 1 by omega, Int.sub_mul]
  omega
theorem mu_push {p : Fn} {n : Nat} (hn : 1 ≤ n) (h4 : n ≤ 4) : mu (up p n (-1)) (n + 1) = mu p n + wt ((n : Int) - 1) - wt n := by
  rw [mu, up_same, mu_cong (p := up p n (-1)) (q := p) (fun i a b => up_ne (by omega))]
  rcases (show n = 1 ∨ n = 2 ∨ n = 3 ∨ n = 4 by omega) with rfl | rfl | rfl | rfl <;> simp [wt] <;> omega
theorem lyI_0 {S : Mem} {m : Nat} (hm : 2 ≤ m) (hr : ∀ k, -1 ≤ S 31 k ∧ S 31 k ≤ 8) (hj : 0 ≤ S 18 1) : lyI S m 1 (mset S 31 0 (-1)) := by
  refine ⟨up (S 31) 0 (-1), mset_mput S 31 0 (-1), fun k => ?_, by omega, fun k k0 k1 => by omega, fun _ => ?_, fun h => by omega, ?_⟩
  · unfold up
    split
    · omega
    · exact hr k
  · show up (S 31) 0 (-1) 0 < _
    rw [up_same]; omega
  · rw [lyR]
    show (match scan (lyV (GR S) m (up (S 31) 0 (-1)) 0) (up (S 31) 0 (-1) 0 + 1) (8 - (up (S 31) 0 (-1) 0 + 1)).toNat with
      | some x => some x
      | none => none) = _
    rw [up_same]
    show (match lyG (GR S) m with
      | some x => some x
      | none => none) = lyG (GR S) m
    cases lyG (GR S) m <;> rfl
/-- the next number at the last place -/
def lyS (n : Nat) (S1 : Mem) : Mem := mset S1 31 ((n : Int) - 1) (S1 31 ((n : Int) - 1) + 1)
theorem lyI_mem {S : Mem} {m n : Nat} {S1 : Mem} (h : lyI S m n S1) : S1 20 = S 20 ∧ S1 21 = S 21 ∧ S1 18 = S 18 ∧ (∀ k, -1 ≤ S1 31 k ∧ S1 31 k ≤ 8) ∧ n ≤ m ∧ (∀ k : Int, 0 ≤ k → k < (n : Int) - 1 → 0 ≤ S1 31 k ∧ S1 31 k < S 18 1) ∧ (1 ≤ n → S1 31 ((n : Int) - 1) < S 18 1) := by
  obtain ⟨h, rfl, h1, h2, h3, h4, -⟩ := h
  exact ⟨rfl, rfl, rfl, h1, h2, h3, h4⟩
theorem lyS_row {n : Nat} {S1 : Mem} : lyS n S1 31 = up (S1 31) ((n : Int) - 1) (S1 31 ((n : Int) - 1) + 1) := by
  unfold lyS
  rw [mset_mput, mput_same]
theorem ly_back {S : Mem} {m n : Nat} {S1 : Mem} (h : lyI S m n S1) (hm : 2 ≤ m) (hn : 1 ≤ n) (hj : 0 ≤ S 18 1 ∧ S 18 1 ≤ 8) (hz : ∀ i j : Int, 0 ≤ j → j < 8 → (S 18 1 ≤ i ∨ S 18 1 ≤ j) → GR S i j = false) (hy : S1 31 ((n : Int) - 1) + 1 = S 18 1) : lyI S m (n - 1) (lyS n S1) ∧ mu (lyS n S1 31) (n - 1) < mu (S1 31) n := by
  rw [lyS_row]
  obtain ⟨h, rfl, h1, h2, h3, h4, h5, h6⟩ := h
  obtain ⟨k, rfl⟩ : ∃ k, n = k + 1 := ⟨n - 1, by omega⟩
  have ek : ((k + 1 : Nat) : Int) - 1 = (k : Int) := by omega
  rw [ek] at h3 h4 hy ⊢
  have hy' : h k + 1 = S 18 1 := hy
  have e1 : ∀ i : Int, 0 ≤ i → i < k → up h k (h k + 1) i = h i := fun i a b => up_ne (by omega)
  rw [Nat.add_sub_cancel]
  refine ⟨⟨up h k (h k + 1), ?_, fun i => ?_, by omega, fun i a b => ?_, fun hk => ?_, fun hk => ?_, ?_⟩, ?_⟩
  · unfold lyS
    rw [mset_mput, ek]
    show mput (mput S 31 h) 31 (up h k (h k + 1)) = _
    rw [mput_mput]
  · unfold up
    split
    · omega
    · exact h1 i
  · rw [e1 i a (by omega)]
    exact h3 i a (by omega)
  · rw [e1 _ (by omega) (by omega)]
    exact (h3 _ (by omega) (by omega)).2
  · have h7 := h5 (by omega)
    obtain ⟨j, rfl⟩ : ∃ j, k = j + 1 := ⟨k - 1, by omega⟩
    rw [Nat.add_sub_cancel] at h7 ⊢
    rw [e1 0 (by omega) (by omega), pl_cong (g := h) (fun i a b => e1 i a (by omega))]
    rw [pl] at h7
    obtain ⟨i, rfl⟩ : ∃ i, j = i + 1 := ⟨j - 1, by omega⟩
    rw [pl] at h7 ⊢
    exact h7.2.2.2.2
  · rw [← h6]
    exact (ly_close hm rfl hy' (by omega) hz).symm
  · show mu (up h k (h k + 1)) k < mu h (k + 1)
    rw [(mu_inc rfl).2, mu]
    have h7 := wt_pos k
    have h8 := h4 (by omega)
    have h9 : 1 * 1 ≤ (8 - h k) * wt k := Int.mul_le_mul (by omega) h7 (by omega) (by omega)
    omega
theorem ly_skip {S : Mem} {m n : Nat} {S1 : Mem} (h : lyI S m n S1) (hn : 1 ≤ n) (hj : 0 ≤ S 18 1 ∧ S 18 1 ≤ 8) (hy : S1 31 ((n : Int) - 1) + 1 ≠ S 18 1) (hV : lyV (GR S) m (S1 31) (n - 1) (S1 31 ((n : Int) - 1) + 1) = none) : lyI S m n (lyS n S1) ∧ mu (lyS n S1 31) n < mu (S1 31) n := by
  rw [lyS_row]
  obtain ⟨h, rfl, h1, h2, h3, h4, h5, h6⟩ := h
  obtain ⟨k, rfl⟩ : ∃ k, n = k + 1 := ⟨n - 1, by omega⟩
  have ek : ((k + 1 : Nat) : Int) - 1 = (k : Int) := by omega
  rw [ek] at h3 h4 hy hV ⊢
  rw [Nat.add_sub_cancel] at hV h5
  have h8 := h4 (by omega)
  have e1 : ∀ i : Int, 0 ≤ i → i < k → up h k (h k + 1) i = h i := fun i a b => up_ne (by omega)
  refine ⟨⟨up h k (h k + 1), ?_, fun i => ?_, h2, fun i a b => ?_, fun hk => ?_, fun hk => ?_, ?_⟩, ?_⟩
  · unfold lyS
    rw [mset_mput, ek]
    show mput (mput S 31 h) 31 (up h k (h k + 1)) = _
    rw [mput_mput]
  · unfold up
    have := h1 k
    split
    · omega
    · exact h1 i
  · rw [ek] at b
    rw [e1 i a b]
    exact h3 i a b
  · rw [ek, up_same]
    have : h k + 1 ≠ S 18 1 := hy
    omega
  · rw [Nat.add_sub_cancel, e1 0 (by omega) (by omega), pl_cong (g := h) e1]
    exact h5 hk
  · rw [← h6, ly_open (y := h k + 1) rfl (by have : h k + 1 ≠ S 18 1 := hy; omega)]
    have : lyV (GR S) m h k (h k + 1) = none := hV
    rw [this]
  · show mu (up h k (h k + 1)) (k + 1) < mu h (k + 1)
    rw [(mu_inc rfl).1]
    have h7 := wt_pos k
    omega
/-- the new path is one -/
theorem ly_path {S : Mem} {m n : Nat} {S1 : Mem} (h : lyI S m n S1) (hn : 1 ≤ n) (hj : 0 ≤ S 18 1 ∧ S 18 1 ≤ 8) (hy : S1 31 ((n : Int) - 1) + 1 ≠ S 18 1) (hc : cbR (lyS n S1) (n - 1) = true) : VP (GR S) (lyS n S1 31 0) (pl (lyS n S1 31) n) ∧ lyV (GR S) m (S1 31) (n - 1) (S1 31 ((n : Int) - 1) + 1) = dfs (GR S) (lyS n S1 31 0) (m - n) (pl (lyS n S1 31) n) ∧ (∀ k : Int, 0 ≤ k → k < n → 0 ≤ lyS n S1 31 k ∧ lyS n S1 31 k < S 18 1) := by
  have hG : GR (lyS n S1) = GR S := by
    obtain ⟨h, rfl, -⟩ := h
    rfl
  have hrow : ∀ x : Int, lyS n S1 31 x = up (S1 31) ((n : Int) - 1) (S1 31 ((n : Int) - 1) + 1) x := fun x => by rw [lyS_row]
  unfold cbR cb0 at hc
  rw [hG] at hc
  rw [lyS_row] at hc ⊢
  obtain ⟨h, rfl, h1, h2, h3, h4, h5, h6⟩ := h
  obtain ⟨k, rfl⟩ : ∃ k, n = k + 1 := ⟨n - 1, by omega⟩
  have ek : ((k + 1 : Nat) : Int) - 1 = (k : Int) := by omega
  rw [ek] at h3 h4 hy hc ⊢
  rw [Nat.add_sub_cancel] at h5 hc ⊢
  have h8 := h4 (by omega)
  have h9 := h1 k
  have hy' : h k + 1 ≠ S 18 1 := hy
  have e1 : ∀ i : Int, 0 ≤ i → i < k → up h k (h k + 1) i = h i := fun i a b => up_ne (by omega)
  have rng : ∀ i : Int, 0 ≤ i → i < ((k + 1 : Nat) : Int) → 0 ≤ up h k (h k + 1) i ∧ up h k (h k + 1) i < S 18 1 := by
    intro i a b
    by_cases q : i = k
    · rw [q, up_same]; omega
    · rw [e1 i a (by omega)]; exact h3 i a (by omega)
  cases k with
  | zero =>
    have e0 : up h ((0 : Nat) : Int) (h ((0 : Nat) : Int) + 1) 0 = h 0 + 1 := up_same _ _ _
    refine ⟨?_, ?_, rng⟩
    · show up h ((0 : Nat) : Int) (h ((0 : Nat) : Int) + 1) ((0 : Nat) : Int) = up h ((0 : Nat) : Int) (h ((0 : Nat) : Int) + 1) 0 ∧ _ ∧ _
      refine ⟨rfl, ?_, ?_⟩
      · exact (rng 0 (by omega) (by omega)).1
      · have := (rng 0 (by omega) (by omega)).2
        show up h ((0 : Nat) : Int) (h ((0 : Nat) : Int) + 1) 0 < 8
        omega
    · show dfs (GR S) (h 0 + 1) (m - 1) [h 0 + 1] = dfs (GR S) (up h ((0 : Nat) : Int) (h ((0 : Nat) : Int) + 1) 0) (m - (0 + 1)) [up h ((0 : Nat) : Int) (h ((0 : Nat) : Int) + 1) 0]
      rw [e0]
  | succ j =>
    have hk0 : ¬ (((j + 1 : Nat) : Int) = 0) := by omega
    rw [decide_eq_false hk0, Bool.false_or] at hc
    simp only [Bool.and_eq_true, Bool.not_eq_true', decide_eq_true_eq] at hc
    obtain ⟨⟨c1, c2⟩, c3⟩ := hc
    have c1' : up h ((j + 1 : Nat) : Int) (h ((j + 1 : Nat) : Int) + 1) 0 < up h ((j + 1 : Nat) : Int) (h ((j + 1 : Nat) : Int) + 1) ((j + 1 : Nat) : Int) := c1
    have c2' : GR S (up h ((j + 1 : Nat) : Int) (h ((j + 1 : Nat) : Int) + 1) (((j + 1 : Nat) : Int) - 1)) (up h ((j + 1 : Nat) : Int) (h ((j + 1 : Nat) : Int) + 1) ((j + 1 : Nat) : Int)) = true := c2
    have c3' : anyI (fun i => decide (up h ((j + 1 : Nat) : Int) (h ((j + 1 : Nat) : Int) + 1) i = up h ((j + 1 : Nat) : Int) (h ((j + 1 : Nat) : Int) + 1) ((j + 1 : Nat) : Int))) (j + 1) = false := c3
    rw [up_same, e1 0 (by omega) (by omega)] at c1'
    rw [up_same, e1 _ (by omega) (by omega)] at c2'
    rw [up_same, anyI_cong (q := fun i => decide (h i = h ((j + 1 : Nat) : Int) + 1)) (fun i a b => by rw [e1 i a b])] at c3'
    have hv := h5 (by omega)
    have hpl : pl (up h ((j + 1 : Nat) : Int) (h ((j + 1 : Nat) : Int) + 1)) (j + 1 + 1) = (h ((j + 1 : Nat) : Int) + 1) :: pl h (j + 1) := by
      rw [pl, up_same, pl_cong (g := h) e1]
    have hcon : (pl h (j + 1)).contains (h ((j + 1 : Nat) : Int) + 1) = false := by rw [pl_has]; exact c3'
    have hhd : (pl h (j + 1)).headD 0 = h (((j + 1 : Nat) : Int) - 1) := pl_head _ _ (by omega)
    show VP (GR S) (up h ((j + 1 : Nat) : Int) (h ((j + 1 : Nat) : Int) + 1) 0) (pl (up h ((j + 1 : Nat) : Int) (h ((j + 1 : Nat) : Int) + 1)) (j + 1 + 1)) ∧ lyV (GR S) m h (j + 1) (h ((j + 1 : Nat) : Int) + 1) = dfs (GR S) (up h ((j + 1 : Nat) : Int) (h ((j + 1 : Nat) : Int) + 1) 0) (m - (j + 1 + 1)) (pl (up h ((j + 1 : Nat) : Int) (h ((j + 1 : Nat) : Int) + 1)) (j + 1 + 1)) ∧ _
    rw [hpl, e1 0 (by omega) (by omega)]
    refine ⟨VP_cons hv (by rw [hhd]; exact c2') hcon c1' (by omega), ?_, rng⟩
    rw [lyV]
    unfold lyF clF
    rw [if_pos c1', hhd, c2', hcon, show m - 2 - j = m - (j + 1 + 1) by omega]
    rfl
