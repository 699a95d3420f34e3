/-! ===== the reference's rings ===== -/
def GR (S : Mem) : Int → Int → Bool := Gb (S 20) (S 21)
def cb0 (S : Mem) (x : Int) : Bool := decide (x = 0) || (decide (S 31 0 < S 31 x) && GR S (S 31 (x - 1)) (S 31 x))
def cbR (S : Mem) (p : Nat) : Bool := cb0 S p && !anyI (fun k => decide (S 31 k = S 31 p)) p
def nxt (m k : Int) : Int := if k + 1 < m then k + 1 else 0
def ok0 (S : Mem) (m k : Int) : Bool := GR S (S 31 k) (S 31 (nxt m k)) && (decide (k = 0) || decide (S 31 0 < S 31 k))
def okK (S : Mem) (m : Int) (k : Int) : Bool := ok0 S m k && !anyI (fun i => decide (S 31 i = S 31 k)) k.toNat
def irR (S : Mem) (m : Nat) : Bool := !anyI (fun k => !okK S m k) m
theorem nxt_rem {m k : Int} (h0 : 0 ≤ k) (h1 : k < m) : k + 1 - (k + 1).tdiv m * m = nxt m k := by
  unfold nxt
  have e : k + 1 - (k + 1).tdiv m * m = (k + 1).tmod m := by
    have := Int.tmod_add_tdiv_mul (k + 1) m
    omega
  rw [e]
  split
  · exact Int.tmod_eq_of_lt (by omega) (by omega)
  · rw [show k + 1 = m by omega, Int.tmod_self]
def lyG (G : Int → Int → Bool) (m : Nat) : Option (List Int) := scan (fun a => dfs G a (m - 1) [a]) 0 8
def lyF (G : Int → Int → Bool) (a : Int) (r : Nat) (l : List Int) (y : Int) : Option (List Int) := if a < y then clF G a r l y else none
def lyV (G : Int → Int → Bool) (m : Nat) (p : Fn) : Nat → Int → Option (List Int)
  | 0, y => dfs G y (m - 1) [y]
  | k + 1, y => lyF G (p 0) (m - 2 - k) (pl p (k + 1)) y
def lyR (G : Int → Int → Bool) (m : Nat) (p : Fn) : Nat → Option (List Int)
  | 0 => none
  | k + 1 => match scan (lyV G m p k) (p k + 1) (8 - (p k + 1)).toNat with
    | some x => some x
    | none => lyR G m p k
theorem lyV_cong {G : Int → Int → Bool} {m : Nat} {p q : Fn} {k : Nat} (h : ∀ i : Int, 0 ≤ i → i < k → p i = q i) : lyV G m p k = lyV G m q k := by
  cases k with
  | zero => rfl
  | succ k =>
    funext y
    rw [lyV, lyV, h 0 (Int.le_refl 0) (by omega), pl_cong h]
theorem lyR_cong {G : Int → Int → Bool} {m : Nat} {p q : Fn} : ∀ {n : Nat}, (∀ i : Int, 0 ≤ i → i < n → p i = q i) → lyR G m p n = lyR G m q n
  | 0, _ => rfl
  | n + 1, h => by
    rw [lyR, lyR, lyV_cong (q := q) (fun i a b => h i a (by omega)), h n (by omega) (by omega), lyR_cong (n := n) (fun i a b => h i a (by omega))]
theorem ly_open {G : Int → Int → Bool} {m : Nat} {p : Fn} {k : Nat} {y : Int} (hy : y = p k + 1) (h8 : y < 8) : lyR G m p (k + 1) = match lyV G m p k y with
    | some x => some x
    | none => lyR G m (up p k y) (k + 1) := by
  have e1 : ∀ i : Int, 0 ≤ i → i < k → up p k y i = p i := fun i a b => up_ne (by omega)
  rw [lyR, lyR, lyV_cong (p := up p k y) (q := p) e1, up_same, lyR_cong (p := up p k y) (q := p) e1, ← hy, show (8 - y).toNat = (8 - (y + 1)).toNat + 1 by omega]
  cases hF : lyV G m p k y with
  | some x => rw [scan_some hF]
  | none => rw [scan_none hF]
theorem scan_nothing {α : Type} {F : Int → Option α} : ∀ {n : Nat} {a : Int}, (∀ k : Int, a ≤ k → k < a + n → F k = none) → scan F a n = none
  | 0, _, _ => rfl
  | n + 1, a, h => by rw [scan_none (h a (by omega) (by omega)), scan_nothing (n := n) (a := a + 1) (fun k h1 h2 => h k (by omega) (by omega))]
theorem ly_close {G : Int → Int → Bool} {m : Nat} {p : Fn} {k : Nat} {y J : Int} (hm : 2 ≤ m) (hy : y = p k + 1) (hJ : y = J) (h0 : 0 ≤ y) (hp : ∀ i : Int, 0 ≤ i → i < k → 0 ≤ p i ∧ p i < 8) (hz : ∀ i j : Int, 0 ≤ i → i < 8 → 0 ≤ j → j < 8 → (J ≤ i ∨ J ≤ j) → G i j = false) : lyR G m p (k + 1) = lyR G m (up p k y) k := by
  have e1 : ∀ i : Int, 0 ≤ i → i < k → up p k y i = p i := fun i a b => up_ne (by omega)
  rw [lyR, lyR_cong (p := up p k y) (q := p) e1, scan_nothing]
  intro z hz1 hz2
  cases k with
  | zero =>
    rw [lyV]
    obtain ⟨r, hr⟩ : ∃ r, m - 1 = r + 1 := ⟨m - 2, by omega⟩
    rw [hr, dfs]
    apply scan_nothing
    intro w w1 w2
    rw [if_neg]
    rw [hz ([z].headD 0) w (by show 0 ≤ z; omega) (by show z < 8; omega) (by omega) (by omega) (Or.inl (by show J ≤ z; omega))]
    simp
  | succ k =>
    rw [lyV]
    unfold lyF clF
    split
    · rw [if_neg]
      have hh : (pl p (k + 1)).headD 0 = p k := rfl
      have hh2 := hp k (by omega) (by omega)
      rw [hh, hz (p k) z hh2.1 hh2.2 (by omega) (by omega) (Or.inr (by omega))]
      simp
    · rfl
theorem lyF_scan {G : Int → Int → Bool} {a : Int} {r : Nat} {l : List Int} (ha : 0 ≤ a ∧ a < 8) : scan (lyF G a r l) 0 8 = dfs G a (r + 1) l := by
  have drop : ∀ (n : Nat) (b : Int), 0 ≤ b → b + n = a + 1 → scan (lyF G a r l) b (8 - b).toNat = scan (lyF G a r l) (a + 1) (7 - a).toNat := by
    intro n
    induction n with
    | zero => intro b h0 h1; rw [show b = a + 1 by omega, show (8 - (a + 1)).toNat = (7 - a).toNat by omega]
    | succ n ih =>
      intro b h0 h1
      rw [show (8 - b).toNat = (8 - (b + 1)).toNat + 1 by omega, scan_none (by unfold lyF; rw [if_neg (by omega)])]
      exact ih (b + 1) (by omega) (by omega)
  have h1 := drop (a + 1).toNat 0 (Int.le_refl 0) (by omega)
  rw [show ((8 : Int) - 0).toNat = 8 from rfl] at h1
  rw [h1, dfs]
  apply scan_cong
  intro k k1 k2
  unfold lyF clF
  rw [if_pos (by omega)]
/-- what the search of the reference has done so far -/
def lyI (S : Mem) (m n : Nat) (S1 : Mem) : Prop := ∃ h : Fn, S1 = mput S 31 h ∧ (∀ k, -1 ≤ h k ∧ h k ≤ 8) ∧ n ≤ m ∧ (∀ k : Int, 0 ≤ k → k < (n : Int) - 1 → 0 ≤ h k ∧ h k < S 18 1) ∧ (1 ≤ n → h ((n : Int) - 1) < S 18 1) ∧ (2 ≤ n → VP (GR S) (h 0) (pl h (n - 1))) ∧ lyR (GR S) m h n = lyG (GR S) m
def lyP (S : Mem) (m : Nat) (v : Int) (S' : Mem) : Prop := ∃ h : Fn, S' = mput S 31 h ∧ (∀ k, -1 ≤ h k ∧ h k ≤ 8) ∧ ((v = 1 ∧ lyG (GR S) m = some (pl h m)) ∨ (v = 0 ∧ lyG (GR S) m = none))
def wt (n : Int) : Int := if n = 0 then 10000 else if n = 1 then 1000 else if n = 2 then 100 else if n = 3 then 10 else 1
def mu (p : Fn) : Nat → Int
  | 0 => 0
  | n + 1 => mu p n + (8 - p n) * wt n
theorem wt_pos (n : Int) : 1 ≤ wt n := by
  unfold wt
  repeat' split
  all_goals omega
theorem mu_cong {p q : Fn} : ∀ {n : Nat}, (∀ i : Int, 0 ≤ i → i < n → p i = q i) → mu p n = mu q n
  | 0, _ => rfl
  | n + 1, h => by rw [mu, mu, mu_cong (n := n) (fun i a b => h i a (by omega)), h n (by omega) (by omega)]
theorem mu_nn {p : Fn} (h : ∀ k, -1 ≤ p k ∧ p k ≤ 8) : ∀ n : Nat, 0 ≤ mu p n
  | 0 => Int.le_refl 0
  | n + 1 => by
    have h1 := mu_nn h n
    have h2 := wt_pos n
    have h3 := h n
    have h4 : 0 ≤ (8 - p n) * wt n := Int.mul_nonneg (by omega) (by omega)
    rw [mu]; omega
theorem mu_inc {p : Fn} {k : Nat} {y : Int} (hy : y = p k + 1) : mu (up p k y) (k + 1) = mu p (k + 1) - wt k ∧ mu (up p k y) k = mu p k := by
  have e : mu (up p k y) k = mu p k := mu_cong (fun i a b => up_ne (by omega))
  refine ⟨?_, e⟩
  rw [mu, mu, e, up_same, hy, show (8 : Int) - (p k + 1) = (8 - p k) - 1 by omega, Int.sub_mul]
  omega
theorem mu_push {p : Fn} {n : Nat} (hn : 1 ≤ n) (h4 : n ≤ 4) : mu (up p n (-1)) (n + 1) = mu p n + wt ((n : Int) - 1) - wt n := by
  rw [mu, up_same, mu_cong (p := up p n (-1)) (q := p) (fun i a b => up_ne (by omega))]
  rcases (show n = 1 ∨ n = 2 ∨ n = 3 ∨ n = 4 by omega) with rfl | rfl | rfl | rfl <;> simp [wt] <;> omega
theorem lyI_0 {S : Mem} {m : Nat} (hm : 2 ≤ m) (hr : ∀ k, -1 ≤ S 31 k ∧ S 31 k ≤ 8) (hj : 0 ≤ S 18 1) : lyI S m 1 (mset S 31 0 (-1)) := by
  refine ⟨up (S 31) 0 (-1), mset_mput S 31 0 (-1), fun k => ?_, by omega, fun k k0 k1 => by omega, fun _ => ?_, fun h => by omega, ?_⟩
  · unfold up
    split
    · omega
    · exact hr k
  · show up (S 31) 0 (-1) 0 < _
    rw [up_same]; omega
  · rw [lyR]
    show (match scan (lyV (GR S) m (up (S 31) 0 (-1)) 0) (up (S 31) 0 (-1) 0 + 1) (8 - (up (S 31) 0 (-1) 0 + 1)).toNat with
      | some x => some x
      | none => none) = _
    rw [up_same]
    show (match lyG (GR S) m with
      | some x => some x
      | none => none) = lyG (GR S) m
    cases lyG (GR S) m <;> rfl
/-- the next number at the last place -/
def lyS (n : Nat) (S1 : Mem) : Mem := mset S1 31 ((n : Int) - 1) (S1 31 ((n : Int) - 1) + 1)
theorem lyI_mem {S : Mem} {m n : Nat} {S1 : Mem} (h : lyI S m n S1) : S1 20 = S 20 ∧ S1 21 = S 21 ∧ S1 18 = S 18 ∧ (∀ k, -1 ≤ S1 31 k ∧ S1 31 k ≤ 8) ∧ n ≤ m ∧ (∀ k : Int, 0 ≤ k → k < (n : Int) - 1 → 0 ≤ S1 31 k ∧ S1 31 k < S 18 1) ∧ (1 ≤ n → S1 31 ((n : Int) - 1) < S 18 1) := by
  obtain ⟨h, rfl, h1, h2, h3, h4, -⟩ := h
  exact ⟨rfl, rfl, rfl, h1, h2, h3, h4⟩
theorem lyS_row {n : Nat} {S1 : Mem} : lyS n S1 31 = up (S1 31) ((n : Int) - 1) (S1 31 ((n : Int) - 1) + 1) := by
  unfold lyS
  rw [mset_mput, mput_same]
theorem ly_back {S : Mem} {m n : Nat} {S1 : Mem} (h : lyI S m n S1) (hm : 2 ≤ m) (hn : 1 ≤ n) (hj : 0 ≤ S 18 1 ∧ S 18 1 ≤ 8) (hz : ∀ i j : Int, 0 ≤ i → i < 8 → 0 ≤ j → j < 8 → (S 18 1 ≤ i ∨ S 18 1 ≤ j) → GR S i j = false) (hy : S1 31 ((n : Int) - 1) + 1 = S 18 1) : lyI S m (n - 1) (lyS n S1) ∧ mu (lyS n S1 31) (n - 1) < mu (S1 31) n := by
  rw [lyS_row]
  obtain ⟨h, rfl, h1, h2, h3, h4, h5, h6⟩ := h
  obtain ⟨k, rfl⟩ : ∃ k, n = k + 1 := ⟨n - 1, by omega⟩
  have ek : ((k + 1 : Nat) : Int) - 1 = (k : Int) := by omega
  rw [ek] at h3 h4 hy ⊢
  have hy' : h k + 1 = S 18 1 := hy
  have e1 : ∀ i : Int, 0 ≤ i → i < k → up h k (h k + 1) i = h i := fun i a b => up_ne (by omega)
  rw [Nat.add_sub_cancel]
  refine ⟨⟨up h k (h k + 1), ?_, fun i => ?_, by omega, fun i a b => ?_, fun hk => ?_, fun hk => ?_, ?_⟩, ?_⟩
  · unfold lyS
    rw [mset_mput, ek]
    show mput (mput S 31 h) 31 (up h k (h k + 1)) = _
    rw [mput_mput]
  · unfold up
    split
    · omega
    · exact h1 i
  · rw [e1 i a (by omega)]
    exact h3 i a (by omega)
  · rw [e1 _ (by omega) (by omega)]
    exact (h3 _ (by omega) (by omega)).2
  · have h7 := h5 (by omega)
    obtain ⟨j, rfl⟩ : ∃ j, k = j + 1 := ⟨k - 1, by omega⟩
    rw [Nat.add_sub_cancel] at h7 ⊢
    rw [e1 0 (by omega) (by omega), pl_cong (g := h) (fun i a b => e1 i a (by omega))]
    rw [pl] at h7
    obtain ⟨i, rfl⟩ : ∃ i, j = i + 1 := ⟨j - 1, by omega⟩
    rw [pl] at h7 ⊢
    exact h7.2.2.2.2
  · rw [← h6]
    exact (ly_close hm rfl hy' (by omega) (fun i a b => by have := h3 i a (by omega); omega) hz).symm
  · show mu (up h k (h k + 1)) k < mu h (k + 1)
    rw [(mu_inc rfl).2, mu]
    have h7 := wt_pos k
    have h8 := h4 (by omega)
    have h9 : 1 * 1 ≤ (8 - h k) * wt k := Int.mul_le_mul (by omega) h7 (by omega) (by omega)
    omega
theorem ly_skip {S : Mem} {m n : Nat} {S1 : Mem} (h : lyI S m n S1) (hn : 1 ≤ n) (hj : 0 ≤ S 18 1 ∧ S 18 1 ≤ 8) (hy : S1 31 ((n : Int) - 1) + 1 ≠ S 18 1) (hV : lyV (GR S) m (S1 31) (n - 1) (S1 31 ((n : Int) - 1) + 1) = none) : lyI S m n (lyS n S1) ∧ mu (lyS n S1 31) n < mu (S1 31) n := by
  rw [lyS_row]
  obtain ⟨h, rfl, h1, h2, h3, h4, h5, h6⟩ := h
  obtain ⟨k, rfl⟩ : ∃ k, n = k + 1 := ⟨n - 1, by omega⟩
  have ek : ((k + 1 : Nat) : Int) - 1 = (k : Int) := by omega
  rw [ek] at h3 h4 hy hV ⊢
  rw [Nat.add_sub_cancel] at hV h5
  have h8 := h4 (by omega)
  have e1 : ∀ i : Int, 0 ≤ i → i < k → up h k (h k + 1) i = h i := fun i a b => up_ne (by omega)
  refine ⟨⟨up h k (h k + 1), ?_, fun i => ?_, h2, fun i a b => ?_, fun hk => ?_, fun hk => ?_, ?_⟩, ?_⟩
  · unfold lyS
    rw [mset_mput, ek]
    show mput (mput S 31 h) 31 (up h k (h k + 1)) = _
    rw [mput_mput]
  · unfold up
    have := h1 k
    split
    · omega
    · exact h1 i
  · rw [ek] at b
    rw [e1 i a b]
    exact h3 i a b
  · rw [ek, up_same]
    have : h k + 1 ≠ S 18 1 := hy
    omega
  · rw [Nat.add_sub_cancel, e1 0 (by omega) (by omega), pl_cong (g := h) e1]
    exact h5 hk
  · rw [← h6, ly_open (y := h k + 1) rfl (by have : h k + 1 ≠ S 18 1 := hy; omega)]
    have : lyV (GR S) m h k (h k + 1) = none := hV
    rw [this]
  · show mu (up h k (h k + 1)) (k + 1) < mu h (k + 1)
    rw [(mu_inc rfl).1]
    have h7 := wt_pos k
    omega
/-- the new path is one -/
theorem ly_path {S : Mem} {m n : Nat} {S1 : Mem} (h : lyI S m n S1) (hn : 1 ≤ n) (hj : 0 ≤ S 18 1 ∧ S 18 1 ≤ 8) (hy : S1 31 ((n : Int) - 1) + 1 ≠ S 18 1) (hc : cbR (lyS n S1) (n - 1) = true) : VP (GR S) (lyS n S1 31 0) (pl (lyS n S1 31) n) ∧ lyV (GR S) m (S1 31) (n - 1) (S1 31 ((n : Int) - 1) + 1) = dfs (GR S) (lyS n S1 31 0) (m - n) (pl (lyS n S1 31) n) ∧ (∀ k : Int, 0 ≤ k → k < n → 0 ≤ lyS n S1 31 k ∧ lyS n S1 31 k < S 18 1) := by
  have hG : GR (lyS n S1) = GR S := by
    obtain ⟨h, rfl, -⟩ := h
    rfl
  have hrow : ∀ x : Int, lyS n S1 31 x = up (S1 31) ((n : Int) - 1) (S1 31 ((n : Int) - 1) + 1) x := fun x => by rw [lyS_row]
  unfold cbR cb0 at hc
  rw [hG] at hc
  rw [lyS_row] at hc ⊢
  obtain ⟨h, rfl, h1, h2, h3, h4, h5, h6⟩ := h
  obtain ⟨k, rfl⟩ : ∃ k, n = k + 1 := ⟨n - 1, by omega⟩
  have ek : ((k + 1 : Nat) : Int) - 1 = (k : Int) := by omega
  rw [ek] at h3 h4 hy hc ⊢
  rw [Nat.add_sub_cancel] at h5 hc ⊢
  have h8 := h4 (by omega)
  have h9 := h1 k
  have hy' : h k + 1 ≠ S 18 1 := hy
  have e1 : ∀ i : Int, 0 ≤ i → i < k → up h k (h k + 1) i = h i := fun i a b => up_ne (by omega)
  have rng : ∀ i : Int, 0 ≤ i → i < ((k + 1 : Nat) : Int) → 0 ≤ up h k (h k + 1) i ∧ up h k (h k + 1) i < S 18 1 := by
    intro i a b
    by_cases q : i = k
    · rw [q, up_same]; omega
    · rw [e1 i a (by omega)]; exact h3 i a (by omega)
  cases k with
  | zero =>
    have e0 : up h ((0 : Nat) : Int) (h ((0 : Nat) : Int) + 1) 0 = h 0 + 1 := up_same _ _ _
    refine ⟨?_, ?_, rng⟩
    · show up h ((0 : Nat) : Int) (h ((0 : Nat) : Int) + 1) ((0 : Nat) : Int) = up h ((0 : Nat) : Int) (h ((0 : Nat) : Int) + 1) 0 ∧ _ ∧ _
      refine ⟨rfl, ?_, ?_⟩
      · exact (rng 0 (by omega) (by omega)).1
      · have := (rng 0 (by omega) (by omega)).2
        show up h ((0 : Nat) : Int) (h ((0 : Nat) : Int) + 1) 0 < 8
        omega
    · show dfs (GR S) (h 0 + 1) (m - 1) [h 0 + 1] = dfs (GR S) (up h ((0 : Nat) : Int) (h ((0 : Nat) : Int) + 1) 0) (m - (0 + 1)) [up h ((0 : Nat) : Int) (h ((0 : Nat) : Int) + 1) 0]
      rw [e0]
  | succ j =>
    have hk0 : ¬ (((j + 1 : Nat) : Int) = 0) := by omega
    rw [decide_eq_false hk0, Bool.false_or] at hc
    simp only [Bool.and_eq_true, Bool.not_eq_true', decide_eq_true_eq] at hc
    obtain ⟨⟨c1, c2⟩, c3⟩ := hc
    have c1' : up h ((j + 1 : Nat) : Int) (h ((j + 1 : Nat) : Int) + 1) 0 < up h ((j + 1 : Nat) : Int) (h ((j + 1 : Nat) : Int) + 1) ((j + 1 : Nat) : Int) := c1
    have c2' : GR S (up h ((j + 1 : Nat) : Int) (h ((j + 1 : Nat) : Int) + 1) (((j + 1 : Nat) : Int) - 1)) (up h ((j + 1 : Nat) : Int) (h ((j + 1 : Nat) : Int) + 1) ((j + 1 : Nat) : Int)) = true := c2
    have c3' : anyI (fun i => decide (up h ((j + 1 : Nat) : Int) (h ((j + 1 : Nat) : Int) + 1) i = up h ((j + 1 : Nat) : Int) (h ((j + 1 : Nat) : Int) + 1) ((j + 1 : Nat) : Int))) (j + 1) = false := c3
    rw [up_same, e1 0 (by omega) (by omega)] at c1'
    rw [up_same, e1 _ (by omega) (by omega)] at c2'
    rw [up_same, anyI_cong (q := fun i => decide (h i = h ((j + 1 : Nat) : Int) + 1)) (fun i a b => by rw [e1 i a b])] at c3'
    have hv := h5 (by omega)
    have hpl : pl (up h ((j + 1 : Nat) : Int) (h ((j + 1 : Nat) : Int) + 1)) (j + 1 + 1) = (h ((j + 1 : Nat) : Int) + 1) :: pl h (j + 1) := by
      rw [pl, up_same, pl_cong (g := h) e1]
    have hcon : (pl h (j + 1)).contains (h ((j + 1 : Nat) : Int) + 1) = false := by rw [pl_has]; exact c3'
    have hhd : (pl h (j + 1)).headD 0 = h (((j + 1 : Nat) : Int) - 1) := pl_head _ _ (by omega)
    show VP (GR S) (up h ((j + 1 : Nat) : Int) (h ((j + 1 : Nat) : Int) + 1) 0) (pl (up h ((j + 1 : Nat) : Int) (h ((j + 1 : Nat) : Int) + 1)) (j + 1 + 1)) ∧ lyV (GR S) m h (j + 1) (h ((j + 1 : Nat) : Int) + 1) = dfs (GR S) (up h ((j + 1 : Nat) : Int) (h ((j + 1 : Nat) : Int) + 1) 0) (m - (j + 1 + 1)) (pl (up h ((j + 1 : Nat) : Int) (h ((j + 1 : Nat) : Int) + 1)) (j + 1 + 1)) ∧ _
    rw [hpl, e1 0 (by omega) (by omega)]
    refine ⟨VP_cons hv (by rw [hhd]; exact c2') hcon c1' (by omega), ?_, rng⟩
    rw [lyV]
    unfold lyF clF
    rw [if_pos c1', hhd, c2', hcon, show m - 2 - j = m - (j + 1 + 1) by omega]
    rfl
theorem vp_facts {G : Int → Int → Bool} {a : Int} {p : Fn} : ∀ {m : Nat}, VP G a (pl p m) → (∀ k : Int, 0 ≤ k → k + 1 < m → G (p k) (p (k + 1)) = true) ∧ (∀ k : Int, 0 < k → k < m → a < p k) ∧ ∀ i k : Int, 0 ≤ i → i < k → k < m → p i ≠ p k
  | 0, h => h.elim
  | 1, _ => ⟨fun k a b => by omega, fun k a b => by omega, fun i k a b c => by omega⟩
  | m + 2, h => by
    have h0 : G (p m) (p ((m + 1 : Nat) : Int)) = true ∧ (pl p (m + 1)).contains (p ((m + 1 : Nat) : Int)) = false ∧ a < p ((m + 1 : Nat) : Int) ∧ p ((m + 1 : Nat) : Int) < 8 ∧ VP G a (pl p (m + 1)) := h
    obtain ⟨h1, h2, h3⟩ := vp_facts (m := m + 1) h0.2.2.2.2
    refine ⟨fun k k0 k1 => ?_, fun k k0 k1 => ?_, fun i k i0 ik k1 => ?_⟩
    · by_cases q : k = m
      · rw [q, show (m : Int) + 1 = ((m + 1 : Nat) : Int) by omega]; exact h0.1
      · exact h1 k k0 (by omega)
    · by_cases q : k = ((m + 1 : Nat) : Int)
      · rw [q]; exact h0.2.2.1
      · exact h2 k k0 (by omega)
    · by_cases q : k = ((m + 1 : Nat) : Int)
      · rw [q]
        intro e
        have h4 := pl_in (f := p) (n := m + 1) (k := i) i0 (by omega)
        rw [e] at h4
        exact notin_of_contains h0.2.1 h4
      · exact h3 i k i0 ik (by omega)
theorem anyI_no {p : Int → Bool} : ∀ {n : Nat}, (∀ k : Int, 0 ≤ k → k < n → p k = false) → anyI p n = false
  | 0, _ => rfl
  | n + 1, h => by rw [anyI, anyI_no (n := n) (fun k a b => h k a (by omega)), h n (by omega) (by omega)]; rfl
theorem ir_is {S : Mem} {m : Nat} (hm : 2 ≤ m) (hv : VP (GR S) (S 31 0) (pl (S 31) m)) : irR S m = GR S (S 31 ((m : Int) - 1)) (S 31 0) := by
  obtain ⟨h1, h2, h3⟩ := vp_facts hv
  have hk : ∀ k : Int, 0 ≤ k → k < m → okK S m k = GR S (S 31 k) (S 31 (nxt m k)) := by
    intro k k0 k1
    unfold okK ok0
    have e1 : (decide (k = 0) || decide (S 31 0 < S 31 k)) = true := by
      by_cases q : k = 0
      · rw [decide_eq_true q]; rfl
      · rw [decide_eq_true (h2 k (by omega) k1), Bool.or_true]
    have e2 : anyI (fun i => decide (S 31 i = S 31 k)) k.toNat = false := anyI_no (fun i a b => decide_eq_false (h3 i k a (by omega) k1))
    rw [e1, e2]
    simp
  obtain ⟨j, rfl⟩ : ∃ j, m = j + 1 := ⟨m - 1, by omega⟩
  unfold irR
  rw [anyI, anyI_no, Bool.false_or, hk j (by omega) (by omega), Bool.not_not, show ((j + 1 : Nat) : Int) - 1 = (j : Int) by omega]
  · congr 2
    unfold nxt
    rw [if_neg (by omega)]
  · intro k a b
    rw [hk k a (by omega)]
    unfold nxt
    rw [if_pos (by omega), h1 k a (by omega)]
    rfl
theorem lyS_ring {S : Mem} {m : Nat} {S1 : Mem} (h : lyI S m m S1) (hm : 2 ≤ m) (hj : 0 ≤ S 18 1 ∧ S 18 1 ≤ 8) (hy : S1 31 ((m : Int) - 1) + 1 ≠ S 18 1) (hc : cbR (lyS m S1) (m - 1) = true) : (irR (lyS m S1) m = true → lyP S m 1 (lyS m S1)) ∧ (irR (lyS m S1) m = false → lyI S m m (lyS m S1) ∧ mu (lyS m S1 31) m < mu (S1 31) m) := by
  have hp := ly_path h (by omega) hj hy hc
  have hG : GR (lyS m S1) = GR S := by
    obtain ⟨h, rfl, -⟩ := h
    rfl
  have hir := ir_is (S := lyS m S1) hm (by rw [hG]; exact hp.1)
  rw [hG] at hir
  have hd : dfs (GR S) (lyS m S1 31 0) (m - m) (pl (lyS m S1 31) m) = if irR (lyS m S1) m = true then some (pl (lyS m S1 31) m) else none := by
    rw [Nat.sub_self, dfs, pl_head _ _ (by omega), hir]
  constructor
  · intro hi
    rw [hd, if_pos hi] at hp
    have hr := lyS_row (n := m) (S1 := S1)
    obtain ⟨h, rfl, h1, h2, h3, h4, h5, h6⟩ := h
    refine ⟨up h ((m : Int) - 1) (h ((m : Int) - 1) + 1), ?_, fun i => ?_, Or.inl ⟨rfl, ?_⟩⟩
    · unfold lyS
      rw [mset_mput]
      show mput (mput S 31 h) 31 (up h ((m : Int) - 1) (h ((m : Int) - 1) + 1)) = _
      rw [mput_mput]
    · have h8 := h4 (by omega)
      have h9 := h1 ((m : Int) - 1)
      unfold up
      split
      · omega
      · exact h1 i
    · rw [← h6]
      obtain ⟨k, rfl⟩ : ∃ k, m = k + 1 := ⟨m - 1, by omega⟩
      have ek : ((k + 1 : Nat) : Int) - 1 = (k : Int) := by omega
      rw [hr] at hp
      rw [ek] at hp h4 hy ⊢
      rw [Nat.add_sub_cancel] at hp
      have h8 := h4 (by omega)
      have hy' : h k + 1 ≠ S 18 1 := hy
      rw [ly_open (y := h k + 1) rfl (by omega)]
      have : lyV (GR S) (k + 1) h k (h k + 1) = some (pl (up h k (h k + 1)) (k + 1)) := hp.2.1
      rw [this]
  · intro hi
    rw [hd, if_neg (by rw [hi]; decide)] at hp
    exact ly_skip h (by omega) hj hy hp.2.1
theorem lyV_no {S : Mem} {m n : Nat} {S1 : Mem} (h : lyI S m n S1) (hn : 1 ≤ n) (hc : cbR (lyS n S1) (n - 1) = false) : lyV (GR S) m (S1 31) (n - 1) (S1 31 ((n : Int) - 1) + 1) = none := by
  have hG : GR (lyS n S1) = GR S := by
    obtain ⟨h, rfl, -⟩ := h
    rfl
  unfold cbR cb0 at hc
  rw [hG, lyS_row] at hc
  obtain ⟨h, rfl, h1, h2, h3, h4, h5, h6⟩ := h
  obtain ⟨k, rfl⟩ : ∃ k, n = k + 1 := ⟨n - 1, by omega⟩
  have ek : ((k + 1 : Nat) : Int) - 1 = (k : Int) := by omega
  rw [ek] at hc ⊢
  rw [Nat.add_sub_cancel] at hc ⊢
  have e1 : ∀ i : Int, 0 ≤ i → i < k → up h k (h k + 1) i = h i := fun i a b => up_ne (by omega)
  cases k with
  | zero =>
    rw [decide_eq_true (show ((0 : Nat) : Int) = 0 by rfl), Bool.true_or, Bool.true_and] at hc
    have : (!anyI (fun k => decide (mput S 31 h 31 k = mput S 31 h 31 k)) 0) = true := rfl
    simp [anyI] at hc
  | succ j =>
    have hk0 : ¬ (((j + 1 : Nat) : Int) = 0) := by omega
    rw [decide_eq_false hk0, Bool.false_or] at hc
    have hc' : ((decide (up h ((j + 1 : Nat) : Int) (h ((j + 1 : Nat) : Int) + 1) 0 < up h ((j + 1 : Nat) : Int) (h ((j + 1 : Nat) : Int) + 1) ((j + 1 : Nat) : Int)) && GR S (up h ((j + 1 : Nat) : Int) (h ((j + 1 : Nat) : Int) + 1) (((j + 1 : Nat) : Int) - 1)) (up h ((j + 1 : Nat) : Int) (h ((j + 1 : Nat) : Int) + 1) ((j + 1 : Nat) : Int))) && !anyI (fun i => decide (up h ((j + 1 : Nat) : Int) (h ((j + 1 : Nat) : Int) + 1) i = up h ((j + 1 : Nat) : Int) (h ((j + 1 : Nat) : Int) + 1) ((j + 1 : Nat) : Int))) (j + 1)) = false := hc
    rw [up_same, e1 0 (by omega) (by omega), e1 _ (by omega) (by omega), anyI_cong (q := fun i => decide (h i = h ((j + 1 : Nat) : Int) + 1)) (fun i a b => by rw [e1 i a b])] at hc'
    show lyV (GR S) m h (j + 1) (h ((j + 1 : Nat) : Int) + 1) = none
    rw [lyV]
    unfold lyF
    split
    · rename_i q
      unfold clF
      rw [if_neg]
      rw [pl_head _ _ (by omega), pl_has]
      rw [decide_eq_true q, Bool.true_and] at hc'
      intro z
      rw [hc'] at z
      cases z
    · rfl
theorem ly_push {S : Mem} {m n : Nat} {S1 : Mem} (h : lyI S m n S1) (hn : 1 ≤ n) (hnm : n < m) (hm5 : m ≤ 5) (hj : 0 ≤ S 18 1 ∧ S 18 1 ≤ 8) (hy : S1 31 ((n : Int) - 1) + 1 ≠ S 18 1) (hc : cbR (lyS n S1) (n - 1) = true) : lyI S m (n + 1) (mset (lyS n S1) 31 n (-1)) ∧ mu (mset (lyS n S1) 31 n (-1) 31) (n + 1) < mu (S1 31) n := by
  have hp := ly_path h hn hj hy hc
  have hr := lyS_row (n := n) (S1 := S1)
  rw [hr] at hp
  obtain ⟨h, rfl, h1, h2, h3, h4, h5, h6⟩ := h
  have h8 := h4 hn
  have h9 := h1 ((n : Int) - 1)
  have hq0 : ∀ i : Int, 0 ≤ i → i < n → up (up h ((n : Int) - 1) (h ((n : Int) - 1) + 1)) n (-1) i = up h ((n : Int) - 1) (h ((n : Int) - 1) + 1) i := fun i a b => up_ne (by omega)
  have hrow : mset (lyS n (mput S 31 h)) 31 n (-1) 31 = up (up h ((n : Int) - 1) (h ((n : Int) - 1) + 1)) n (-1) := by
    rw [mset_mput, mput_same, hr]
    rfl
  obtain ⟨p1, p2, p3⟩ := hp
  have p1' : VP (GR S) (up h ((n : Int) - 1) (h ((n : Int) - 1) + 1) 0) (pl (up h ((n : Int) - 1) (h ((n : Int) - 1) + 1)) n) := p1
  have p2' : lyV (GR S) m h (n - 1) (h ((n : Int) - 1) + 1) = dfs (GR S) (up h ((n : Int) - 1) (h ((n : Int) - 1) + 1) 0) (m - n) (pl (up h ((n : Int) - 1) (h ((n : Int) - 1) + 1)) n) := p2
  have p3' : ∀ k : Int, 0 ≤ k → k < n → 0 ≤ up h ((n : Int) - 1) (h ((n : Int) - 1) + 1) k ∧ up h ((n : Int) - 1) (h ((n : Int) - 1) + 1) k < S 18 1 := p3
  have hq := p3' 0 (by omega) (by omega)
  refine ⟨⟨up (up h ((n : Int) - 1) (h ((n : Int) - 1) + 1)) n (-1), ?_, fun i => ?_, by omega, fun i a b => ?_, fun _ => ?_, fun _ => ?_, ?_⟩, ?_⟩
  · rw [mset_mput, hr]
    unfold lyS
    rw [mset_mput]
    show mput (mput (mput S 31 h) 31 _) 31 (up (up h ((n : Int) - 1) (h ((n : Int) - 1) + 1)) n (-1)) = _
    rw [mput_mput, mput_mput]
  · unfold up
    split
    · omega
    · split
      · omega
      · exact h1 i
  · rw [hq0 i a (by omega)]
    exact p3' i a (by omega)
  · rw [show ((n + 1 : Nat) : Int) - 1 = (n : Int) by omega, up_same]
    omega
  · rw [Nat.add_sub_cancel, hq0 0 (by omega) (by omega), pl_cong hq0]
    exact p1'
  · rw [← h6]
    obtain ⟨k, rfl⟩ : ∃ k, n = k + 1 := ⟨n - 1, by omega⟩
    have ek : ((k + 1 : Nat) : Int) - 1 = (k : Int) := by omega
    rw [ek] at h8 hy p2' hq0 hq ⊢
    rw [Nat.add_sub_cancel] at p2'
    have hy' : h k + 1 ≠ S 18 1 := hy
    rw [ly_open (y := h k + 1) rfl (by omega), p2', lyR, up_same]
    have e0 : lyR (GR S) m (up (up h k (h k + 1)) ((k + 1 : Nat) : Int) (-1)) (k + 1) = lyR (GR S) m (up h k (h k + 1)) (k + 1) := lyR_cong hq0
    have e2 : scan (lyV (GR S) m (up (up h k (h k + 1)) ((k + 1 : Nat) : Int) (-1)) (k + 1)) (-1 + 1) (8 - (-1 + 1)).toNat = dfs (GR S) (up h k (h k + 1) 0) (m - (k + 1)) (pl (up h k (h k + 1)) (k + 1)) := by
      rw [lyV_cong (q := up h k (h k + 1)) hq0]
      show scan (lyF (GR S) (up h k (h k + 1) 0) (m - 2 - k) (pl (up h k (h k + 1)) (k + 1))) 0 8 = _
      rw [lyF_scan (by omega), show m - 2 - k + 1 = m - (k + 1) by omega]
    rw [e0, e2]
  · show mu (mset (lyS n (mput S 31 h)) 31 n (-1) 31) (n + 1) < mu h n
    rw [hrow, mu_push hn (by omega)]
    obtain ⟨k, rfl⟩ : ∃ k, n = k + 1 := ⟨n - 1, by omega⟩
    have ek : ((k + 1 : Nat) : Int) - 1 = (k : Int) := by omega
    rw [ek, (mu_inc rfl).1]
    have := wt_pos ((k + 1 : Nat) : Int)
    omega
theorem lyI_end {S : Mem} {m : Nat} {S1 : Mem} (h : lyI S m 0 S1) : lyP S m 0 S1 := by
  obtain ⟨h, h0, h1, h2, h3, h4, h5, h6⟩ := h
  exact ⟨h, h0, h1, Or.inr ⟨rfl, h6.symm⟩⟩
theorem lyP_v {S : Mem} {m : Nat} {v : Int} {S' : Mem} (h : lyP S m v S') : v = 0 ∨ v = 1 := by
  obtain ⟨h, -, -, q | q⟩ := h
  · exact Or.inr q.1
  · exact Or.inl q.1
theorem ly_rng {S : Mem} {m n : Nat} {S1 : Mem} (h : lyI S m n S1) (hn : 1 ≤ n) (hj : 0 ≤ S 18 1 ∧ S 18 1 ≤ 8) (hy : S1 31 ((n : Int) - 1) + 1 ≠ S 18 1) : (∀ k : Int, 0 ≤ k → k < n → 0 ≤ lyS n S1 31 k ∧ lyS n S1 31 k < 8) ∧ ∀ k, -1 ≤ lyS n S1 31 k ∧ lyS n S1 31 k ≤ 8 := by
  have hm := lyI_mem h
  rw [lyS_row]
  have h1 := hm.2.2.2.2.2.2 hn
  have h2 := hm.2.2.2.1 ((n : Int) - 1)
  refine ⟨fun k k0 k1 => ?_, fun k => ?_⟩
  · unfold up
    split
    · omega
    · have := hm.2.2.2.2.2.1 k k0 (by omega)
      omega
  · unfold up
    split
    · omega
    · exact hm.2.2.2.1 k
theorem nxt_in {m k : Int} (h0 : 0 ≤ k) (h1 : k < m) : 0 ≤ nxt m k ∧ nxt m k < m := by
  unfold nxt
  split <;> omega
/-! all lengths -/
def neI (S : Mem) (z : Int) (S1 : Mem) : Prop := ∃ h : Fn, S1 = mput S 31 h ∧ (∀ k, -1 ≤ h k ∧ h k ≤ 8) ∧ scan (fun y => lyG (GR S) y.toNat) z (6 - z).toNat = fnd (GR S)
def neP (S : Mem) (v : Int) (S' : Mem) : Prop := ∃ h : Fn, (∀ k, -1 ≤ h k ∧ h k ≤ 8) ∧ ((v = 0 ∧ fnd (GR S) = none ∧ S' = mput S 31 h) ∨ (v = 1 ∧ ∃ (l : List Int) (h30 : Fn), fnd (GR S) = some l ∧ S' = mset (mput (mput (mput S 31 h) 30 h30) 20 (ntR (S 20) (S 21) l)) 18 16 (S 18 16 + 1) ∧ rowIs h30 (S 18 16) (lsR (S 20) (S 21) l) l ∧ ∀ x : Int, ¬ (rix (S 18 16) 0 ≤ x ∧ x < rix (S 18 16) 7) → h30 x = S 30 x))
theorem neI_0 {S : Mem} (hr : ∀ k, -1 ≤ S 31 k ∧ S 31 k ≤ 8) : neI S 2 S := by
  refine ⟨S 31, (mput_self S 31).symm, hr, ?_⟩
  unfold fnd
  apply scan_cong
  intro k k1 k2
  unfold lyG
  rw [show k.toNat - 1 = (k - 1).toNat by omega]
theorem neI_mem {S : Mem} {z : Int} {S1 : Mem} (h : neI S z S1) : S1 20 = S 20 ∧ S1 21 = S 21 ∧ S1 18 = S 18 ∧ S1 30 = S 30 ∧ (∀ k, -1 ≤ S1 31 k ∧ S1 31 k ≤ 8) ∧ GR S1 = GR S ∧ (RgR S → RgR S1) := by
  obtain ⟨h, rfl, h1, -⟩ := h
  exact ⟨rfl, rfl, rfl, rfl, h1, rfl, fun q => q⟩
theorem neI_next {S : Mem} {z : Int} {S1 S2 : Mem} (h : neI S z S1) (hz : 2 ≤ z ∧ z ≤ 5) (hp : lyP S1 z.toNat 0 S2) : neI S (z + 1) S2 := by
  obtain ⟨h, rfl, h1, h2⟩ := h
  obtain ⟨h3, rfl, h4, h5⟩ := hp
  refine ⟨h3, mput_mput _ _ _ _, h4, ?_⟩
  rcases h5 with q | q
  · omega
  · rw [← h2, show (6 - z).toNat = (6 - (z + 1)).toNat + 1 by omega]
    exact (scan_none (F := fun y => lyG (GR S) y.toNat) q.2).symm
theorem neI_end {S : Mem} {S1 : Mem} (h : neI S 6 S1) : neP S 0 S1 := by
  obtain ⟨h, rfl, h1, h2⟩ := h
  exact ⟨h, h1, Or.inl ⟨rfl, h2.symm, rfl⟩⟩
theorem neI_found {S : Mem} {z : Int} {S1 S2 : Mem} (h : neI S z S1) (hz : 2 ≤ z ∧ z ≤ 5) (hp : lyP S1 z.toNat 1 S2) : ∃ h : Fn, S2 = mput S 31 h ∧ (∀ k, -1 ≤ h k ∧ h k ≤ 8) ∧ fnd (GR S) = some (pl h z.toNat) ∧ ∀ k : Int, 0 ≤ k → k < z → 0 ≤ h k ∧ h k < 8 := by
  obtain ⟨h, rfl, h1, h2⟩ := h
  obtain ⟨h3, rfl, h4, h5⟩ := hp
  have hf : fnd (GR S) = some (pl h3 z.toNat) := by
    rcases h5 with q | q
    · rw [← h2, show (6 - z).toNat = (6 - (z + 1)).toNat + 1 by omega]
      exact scan_some (F := fun y => lyG (GR S) y.toNat) q.2
    · omega
  refine ⟨h3, mput_mput _ _ _ _, h4, hf, fun k k0 k1 => ?_⟩
  obtain ⟨a, g1, -⟩ := fnd_is hf
  exact (VP_in g1 _ (pl_in k0 (by omega))).2
/-- the row of the ring that is told -/
def nrI (S2 : Mem) (h : Fn) (z v y : Int) (S3 : Mem) : Prop := ∃ h30 : Fn, S3 = mput S2 30 h30 ∧ h30 (rix (S2 18 16) 0) = z ∧ h30 (rix (S2 18 16) 1) = v ∧ (∀ k : Int, 0 ≤ k → k < y → h30 (rix (S2 18 16) (2 + k)) = if k < z then h k else -1) ∧ ∀ x : Int, ¬ (rix (S2 18 16) 0 ≤ x ∧ x < rix (S2 18 16) 7) → h30 x = S2 30 x
theorem nrI_0 {S2 : Mem} {h : Fn} {z v : Int} : nrI S2 h z v 0 (mset (mset S2 30 (7 * S2 18 16) z) 30 (7 * S2 18 16 + 1) v) := by
  refine ⟨up (up (S2 30) (7 * S2 18 16) z) (7 * S2 18 16 + 1) v, ?_, ?_, ?_, fun k k0 k1 => by omega, fun x hx => ?_⟩
  · rw [mset_mput, mset_mput, mput_same, mput_mput]
  · rw [up_ne (by unfold rix; omega)]
    show up (S2 30) (7 * S2 18 16) z (7 * S2 18 16 + 0) = z
    rw [Int.add_zero, up_same]
  · exact up_same _ _ _
  · rw [up_ne (fun q => hx (by unfold rix; omega)), up_ne (fun q => hx (by unfold rix; omega))]
theorem nrI_step {S2 : Mem} {h : Fn} {z v y w : Int} {S3 : Mem} (hI : nrI S2 h z v y S3) (hy : 0 ≤ y ∧ y < 5) (hw : w = if y < z then h y else -1) : nrI S2 h z v (y + 1) (mset S3 30 (7 * S2 18 16 + 2 + y) w) := by
  obtain ⟨h30, rfl, e1, e2, e3, e4⟩ := hI
  refine ⟨up h30 (7 * S2 18 16 + 2 + y) w, ?_, ?_, ?_, fun k k0 k1 => ?_, fun x hx => ?_⟩
  · rw [mset_mput, mput_same, mput_mput]
  · rw [up_ne (by unfold rix; omega)]; exact e1
  · rw [up_ne (by unfold rix; omega)]; exact e2
  · by_cases q : k = y
    · subst q
      rw [show rix (S2 18 16) (2 + k) = 7 * S2 18 16 + 2 + k by unfold rix; omega, up_same]
      exact hw
    · rw [up_ne (by unfold rix; omega)]
      exact e3 k k0 (by omega)
  · rw [up_ne (fun q => hx (by unfold rix; omega))]
    exact e4 x hx
/-- what is owed, so many debts of the ring later -/
def nwF (ow : Fn) (v : Int) (p : Fn) (m k : Nat) : Fn := if k < m then ntL ow v (pl p (k + 1)) else adF (ntL ow v (pl p m)) (p ((m : Int) - 1)) (p 0) (-v)
theorem nwF_step {ow : Fn} {v : Int} {p : Fn} {m k : Nat} (hk : k < m) : nwF ow v p m (k + 1) = adF (nwF ow v p m k) (p k) (p (nxt m k)) (-v) := by
  unfold nwF nxt
  rw [if_pos hk]
  by_cases q : k + 1 < m
  · rw [if_pos q, if_pos (by omega), ntL_pl (by omega)]
    rw [show ((k + 1 : Nat) : Int) - 1 = (k : Int) by omega, show ((k + 1 : Nat) : Int) = (k : Int) + 1 by omega]
  · have : m = k + 1 := by omega
    subst this
    rw [if_neg q, if_neg (by omega), show ((k + 1 : Nat) : Int) - 1 = (k : Int) by omega]
theorem nwF_end {ow fz : Fn} {p : Fn} {m : Nat} (hm : 1 ≤ m) : nwF ow (lsR ow fz (pl p m)) p m m = ntR ow fz (pl p m) := by
  unfold nwF
  rw [if_neg (by omega), ntR_pl hm, ntL_adF]
theorem neP_1 {S : Mem} {h : Fn} {z v : Int} {m : Nat} {S2 S3 S4 : Mem} (hS2 : S2 = mput S 31 h) (hr : ∀ k, -1 ≤ h k ∧ h k ≤ 8) (hf : fnd (GR S) = some (pl h m)) (hm : 1 ≤ m) (hz : z = m) (hm5 : m ≤ 5) (hv : v = lsR (S 20) (S 21) (pl h m)) (hI : nrI S2 h z v 5 S3) (hS4 : S4 = mput S3 20 (nwF (S 20) v h m m)) : neP S 1 (mset S4 18 16 (S4 18 16 + 1)) := by
  obtain ⟨h30, rfl, e1, e2, e3, e4⟩ := hI
  subst hS2
  refine ⟨h, hr, Or.inr ⟨rfl, pl h m, h30, hf, ?_, ?_, fun x hx => e4 x hx⟩⟩
  · rw [hS4, hv, nwF_end hm]
    rfl
  · refine ⟨by rw [pl_len, ← hz]; exact e1, by rw [← hv]; exact e2, ?_, fun k k0 k1 => ?_⟩
    · rw [pl_len]
      exact pl_cong (fun k k0 k1 => by
        have := e3 k k0 (by omega)
        rw [if_pos (by omega)] at this
        exact this)
    · rw [pl_len] at k0
      have := e3 k (by omega) k1
      rw [if_neg (by omega)] at this
      exact this
theorem neP_v {S : Mem} {v : Int} {S' : Mem} (h : neP S v S') : v = 0 ∨ v = 1 := by
  obtain ⟨h, -, q | q⟩ := h
  · exact Or.inl q.1
  · exact Or.inr q.1
