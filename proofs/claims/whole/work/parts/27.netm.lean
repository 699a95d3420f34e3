/-! ===== rings: netting ===== -/
theorem lsL_pl {op : Int → Int → Int} {c : Int} {p : Fn} {k : Nat} (hk : 1 ≤ k) : lsL op c (pl p (k + 1)) = mn (lsL op c (pl p k)) (op (p ((k : Int) - 1)) (p k)) := by
  obtain ⟨j, rfl⟩ : ∃ j, k = j + 1 := ⟨k - 1, by omega⟩
  rw [show (((j + 1 : Nat) : Int) - 1) = (j : Int) by omega]
  rfl
theorem ntL_pl {ow : Fn} {v : Int} {p : Fn} {k : Nat} (hk : 1 ≤ k) : ntL ow v (pl p (k + 1)) = adF (ntL ow v (pl p k)) (p ((k : Int) - 1)) (p k) (-v) := by
  obtain ⟨j, rfl⟩ : ∃ j, k = j + 1 := ⟨k - 1, by omega⟩
  rw [show (((j + 1 : Nat) : Int) - 1) = (j : Int) by omega]
  rfl
theorem lsR_pl {ow fz : Fn} {p : Fn} {n : Nat} (hn : 1 ≤ n) : lsR ow fz (pl p n) = lsL (opF ow fz) (opF ow fz (p ((n : Int) - 1)) (p 0)) (pl p n) := by
  unfold lsR
  rw [pl_head _ _ hn, pl_last _ _ hn]
theorem ntR_pl {ow fz : Fn} {p : Fn} {n : Nat} (hn : 1 ≤ n) : ntR ow fz (pl p n) = ntL (adF ow (p ((n : Int) - 1)) (p 0) (-(lsR ow fz (pl p n)))) (lsR ow fz (pl p n)) (pl p n) := by
  unfold ntR
  rw [pl_head _ _ hn, pl_last _ _ hn]
def ntI (S : Mem) (ow : Fn) (n : Nat) (v u : Int) (S2 : Mem) : Prop := ∃ h : Fn, S2 = mput (mput S 8 ow) 17 h ∧ agr S 0 h ∧ h (rix (S 15 1) 0) = n ∧ h (rix (S 15 1) 1) = v ∧ (∀ k : Int, 0 ≤ k → k < n → h (rix (S 15 1) (2 + k)) = pth S k) ∧ ∀ k : Int, n ≤ k → k < u → h (rix (S 15 1) (2 + k)) = -1
def ntP (S : Mem) (n : Nat) (S' : Mem) : Prop := ∃ h : Fn, S' = mput (mput S 8 (ntR (S 8) (S 10) (pl (pth S) n))) 17 h ∧ agr S 0 h ∧ rowIs h (S 15 1) (lsR (S 8) (S 10) (pl (pth S) n)) (pl (pth S) n)
theorem ntI_0 {S : Mem} {ow : Fn} {n : Nat} {v : Int} (hn : S 17 (rix (S 15 1) 0) = n) (h5 : n ≤ 5) : ntI S ow n v n (put17 (mput S 8 ow) 1 v) := by
  refine ⟨up (S 17) (rix (S 15 1) 1) v, rfl, fun x hx => up_ne (fun q => hx (by unfold rix at q ⊢; omega)), ?_, up_same _ _ _, fun k k0 k1 => up_ne (by unfold rix; omega), fun k k0 k1 => by omega⟩
  rw [up_ne (by unfold rix; omega)]
  exact hn
theorem ntI_step {S : Mem} {ow : Fn} {n : Nat} {v u : Int} {S2 : Mem} (h : ntI S ow n v u S2) (hu : n ≤ u ∧ u < 5) : ntI S ow n v (u + 1) (put17 S2 (2 + u) (-1)) := by
  obtain ⟨h, rfl, e1, e2, e3, e4, e5⟩ := h
  refine ⟨up h (rix (S 15 1) (2 + u)) (-1), ?_, fun x hx => ?_, ?_, ?_, fun k k0 k1 => ?_, fun k k0 k1 => ?_⟩
  · show mput (mput (mput S 8 ow) 17 h) 17 _ = _
    rw [mput_mput]
    rfl
  · rw [up_ne (fun q => hx (by unfold rix at q ⊢; omega))]
    exact e1 x hx
  · rw [up_ne (by unfold rix; omega)]; exact e2
  · rw [up_ne (by unfold rix; omega)]; exact e3
  · rw [up_ne (by unfold rix; omega)]; exact e4 k k0 k1
  · by_cases q : k = u
    · subst q; exact up_same _ _ _
    · rw [up_ne (by unfold rix; omega)]; exact e5 k k0 (by omega)
theorem ntI_mem {S : Mem} {ow : Fn} {n : Nat} {v u : Int} {S2 : Mem} (h : ntI S ow n v u S2) : S2 15 = S 15 := by
  obtain ⟨h, rfl, -⟩ := h
  rfl
theorem ntI_end {S : Mem} {n : Nat} {S2 : Mem} (h : ntI S (ntR (S 8) (S 10) (pl (pth S) n)) n (lsR (S 8) (S 10) (pl (pth S) n)) 5 S2) : ntP S n S2 := by
  obtain ⟨h, e0, e1, e2, e3, e4, e5⟩ := h
  refine ⟨h, e0, e1, by rw [pl_len]; exact e2, e3, ?_, ?_⟩
  · rw [pl_len]
    exact pl_cong (fun k k0 k1 => e4 k k0 k1)
  · rw [pl_len]
    exact e5
/-- the rings netted so far -/
def raI (S : Mem) (i : Nat) (S1 : Mem) : Prop := ∃ h : Fn, S1 = mput (mput (mput S 8 (rgN (S 10) (S 8) i)) 17 h) 15 (up (S 15) 1 i) ∧ ∀ k : Nat, k < i → ∃ l : List Int, fnd (Gb (rgN (S 10) (S 8) k) (S 10)) = some l ∧ rowIs h k (lsR (rgN (S 10) (S 8) k) (S 10) l) l
def raP (S S' : Mem) : Prop := ∃ n : Nat, n ≤ 56 ∧ raI S n S' ∧ fnd (Gb (rgN (S 10) (S 8) n) (S 10)) = none
theorem raI_0 {S : Mem} : raI S 0 (mset S 15 1 0) := by
  refine ⟨S 17, ?_, fun k hk => absurd hk (Nat.not_lt_zero k)⟩
  rw [mset_mput]
  show _ = mput (mput (mput S 8 (S 8)) 17 (S 17)) 15 _
  rw [mput_self, mput_self]
  rfl
theorem raI_mem {S : Mem} {i : Nat} {S1 : Mem} (h : raI S i S1) (hok : OkD (S 8)) (hf : Fz (S 8) (S 10)) : OkD (S1 8) ∧ Fz (S1 8) (S1 10) ∧ S1 15 1 = i ∧ i ≤ 56 := by
  obtain ⟨h, rfl, hr⟩ := h
  have e1 := rgN_ok hok hf i
  refine ⟨e1.1, e1.2, rfl, (rgN_56 hok hf (n := i) (fun k hk => ?_)).1⟩
  obtain ⟨l, q, -⟩ := hr k hk
  rw [q]
  exact fun z => by cases z
theorem raI_end {S : Mem} {i : Nat} {S1 S2 : Mem} (h : raI S i S1) (hok : OkD (S 8)) (hf : Fz (S 8) (S 10)) (hp : fiP S1 0 S2) : raP S S2 := by
  have hm := raI_mem h hok hf
  obtain ⟨h, rfl, hr⟩ := h
  obtain ⟨h2, rfl, f1, f2⟩ := hp
  have hrow : ∀ k : Nat, k < i → ∃ l : List Int, fnd (Gb (rgN (S 10) (S 8) k) (S 10)) = some l ∧ rowIs h2 k (lsR (rgN (S 10) (S 8) k) (S 10) l) l := by
    intro k hk
    obtain ⟨l, q1, q2, q3, q4, q5⟩ := hr k hk
    have hl : l.length ≤ 5 := (fnd_is q1).choose_spec.2.2.2
    have ag : ∀ z : Int, 0 ≤ z → z < 7 → h2 (rix k z) = h (rix k z) := fun z z0 z7 => f1 _ (fun q => by
      have q1 := q.1
      have q2 := q.2
      rw [hm.2.2.1] at q1
      unfold rix at q1
      omega)
    refine ⟨l, q1, by rw [ag 0 (by omega) (by omega)]; exact q2, by rw [ag 1 (by omega) (by omega)]; exact q3, ?_, fun z z0 z5 => by rw [ag (2 + z) (by omega) (by omega)]; exact q5 z z0 z5⟩
    rw [← q4]
    rw [pl_len]
    exact pl_cong (fun z z0 z1 => ag (2 + z) (by omega) (by rw [q4] at *; omega))
  refine ⟨i, hm.2.2.2, ⟨h2, ?_, hrow⟩, ?_⟩
  · funext o
    simp only [mput]
    by_cases h17 : o = 17
    · subst h17; simp
    · by_cases h15 : o = 15
      · subst h15; simp
      · simp [h17, h15]
  · rcases f2 with q | q
    · omega
    · exact q.2
theorem raI_step {S : Mem} {i : Nat} {S1 S2 : Mem} {v : Int} (h : raI S i S1) (hok : OkD (S 8)) (hf : Fz (S 8) (S 10)) (hp : fiP S1 v S2) (hv : v ≠ 0) : S2 15 = S1 15 ∧ S2 8 = S1 8 ∧ S2 10 = S1 10 ∧ ∃ n : Nat, 2 ≤ n ∧ n ≤ 5 ∧ S2 17 (rix (S2 15 1) 0) = n ∧ (∀ k : Int, 0 ≤ k → k < n → 0 ≤ pth S2 k ∧ pth S2 k < 8) ∧ ∀ S3 : Mem, ntP S2 n S3 → S3 15 = S1 15 ∧ raI S (i + 1) (mset S3 15 1 (S3 15 1 + 1)) := by
  have hm := raI_mem h hok hf
  obtain ⟨h, rfl, hr⟩ := h
  obtain ⟨h2, rfl, f1, f2⟩ := hp
  refine ⟨rfl, rfl, rfl, ?_⟩
  rcases f2 with ⟨-, n, q1, q2⟩ | q
  · obtain ⟨a, g1, g2, g3, g4⟩ := fnd_is q1
    rw [pl_len] at g3 g4
    refine ⟨n, g3, g4, q2, fun k k0 k1 => (VP_in g1 _ (pl_in k0 k1)).2, fun S3 hn => ?_⟩
    obtain ⟨h3, rfl, f3, f4⟩ := hn
    refine ⟨rfl, h3, ?_, ?_⟩
    · rw [mset_mput]
      show mput (mput (mput (mput (mput (mput (mput S 8 (rgN (S 10) (S 8) i)) 17 h) 15 (up (S 15) 1 i)) 17 h2) 8 (ntR (rgN (S 10) (S 8) i) (S 10) _)) 17 h3) 15 (up (up (S 15) 1 i) 1 (up (S 15) 1 i 1 + 1)) = _
      rw [up_up, up_same]
      have hst : rgN (S 10) (S 8) (i + 1) = ntR (rgN (S 10) (S 8) i) (S 10) (pl (pth (mput (mput (mput (mput S 8 (rgN (S 10) (S 8) i)) 17 h) 15 (up (S 15) 1 i)) 17 h2)) n) := by
        show stp (S 10) (rgN (S 10) (S 8) i) = _
        unfold stp
        rw [show fnd (Gb (rgN (S 10) (S 8) i) (S 10)) = _ from q1]
      rw [hst]
      funext o
      simp only [mput]
      by_cases h17 : o = 17
      · subst h17; simp
      · by_cases h15 : o = 15
        · subst h15; simp
        · by_cases h8 : o = 8
          · subst h8; simp
          · simp [h17, h15, h8]
    · intro k hk
      by_cases hki : k < i
      · obtain ⟨l, r1, r2, r3, r4, r5⟩ := hr k hki
        have hl : l.length ≤ 5 := (fnd_is r1).choose_spec.2.2.2
        have ag : ∀ z : Int, 0 ≤ z → z < 7 → h3 (rix k z) = h (rix k z) := fun z z0 z7 => by
          have e1 : h3 (rix k z) = h2 (rix k z) := f3 _ (fun q => by
            have q3 : rix (i : Int) 0 ≤ rix k z := q.1
            unfold rix at q3
            omega)
          have e2 : h2 (rix k z) = h (rix k z) := f1 _ (fun q => by
            have q3 : rix (i : Int) 0 ≤ rix k z := q.1
            unfold rix at q3
            omega)
          rw [e1, e2]
        refine ⟨l, r1, by rw [ag 0 (by omega) (by omega)]; exact r2, by rw [ag 1 (by omega) (by omega)]; exact r3, ?_, fun z z0 z5 => by rw [ag (2 + z) (by omega) (by omega)]; exact r5 z z0 z5⟩
        rw [← r4]
        rw [pl_len]
        exact pl_cong (fun z z0 z1 => ag (2 + z) (by omega) (by omega))
      · have : k = i := by omega
        subst this
        exact ⟨_, q1, f4⟩
  · exact absurd q.1 hv
theorem fiP_v {S : Mem} {v : Int} {S' : Mem} (h : fiP S v S') : v = 0 ∨ v = 1 := by
  obtain ⟨h, -, -, q | q⟩ := h
  · exact Or.inr q.1
  · exact Or.inl q.1
theorem raI_full {S : Mem} {i : Nat} {S1 : Mem} (h : raI S i S1) (hok : OkD (S 8)) (hf : Fz (S 8) (S 10)) (hi : 56 ≤ i) : raP S S1 := by
  have hm := raI_mem h hok hf
  refine ⟨i, hm.2.2.2, h, ?_⟩
  obtain ⟨h, rfl, hr⟩ := h
  exact (rgN_56 hok hf (n := i) (fun k hk => by
    obtain ⟨l, q, -⟩ := hr k hk
    rw [q]
    exact fun z => by cases z)).2 (by omega)
