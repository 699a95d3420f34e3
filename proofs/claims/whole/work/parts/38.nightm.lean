/-! ===== the reference's night and leaving: mathematics ===== -/
section
variable {C : mX} {g : mG} {S : Mem} {pc nL : Nat} {k : Nat × Nat} {lv : List (Nat × Value)} {st : List Value}
end
theorem rowIs_cong {h h2 : Fn} {c v : Int} {l : List Int} (hl : l.length ≤ 5) (ag : ∀ z : Int, 0 ≤ z → z < 7 → h2 (rix c z) = h (rix c z)) (h1 : rowIs h c v l) : rowIs h2 c v l := by
  obtain ⟨r2, r3, r4, r5⟩ := h1
  refine ⟨by rw [ag 0 (by omega) (by omega)]; exact r2, by rw [ag 1 (by omega) (by omega)]; exact r3, ?_, fun z z0 z5 => by rw [ag (2 + z) (by omega) (by omega)]; exact r5 z z0 z5⟩
  conv => rhs; rw [← r4]
  exact pl_cong (fun z z0 z1 => ag (2 + z) (by omega) (by omega))
theorem nrR_0 {S : Mem} (hr : ∀ k, -1 ≤ S 31 k ∧ S 31 k ≤ 8) : nrR S 0 (mset S 18 16 0) := by
  refine ⟨S 31, S 30, hr, ?_, by omega, fun k hk => by omega⟩
  show _ = mset (mput (mput (mput S 31 (S 31)) 30 (S 30)) 20 (S 20)) 18 16 0
  rw [mput_self, mput_self, mput_self]
theorem nrR_mem {S : Mem} {n : Nat} {S1 : Mem} (h : nrR S n S1) : S1 20 = rgN (S 21) (S 20) n ∧ S1 21 = S 21 ∧ S1 18 16 = n ∧ (∀ i : Int, i ≠ 16 → S1 18 i = S 18 i) ∧ (∀ o : Nat, o ≠ 18 → o ≠ 20 → o ≠ 30 → o ≠ 31 → S1 o = S o) ∧ (∀ k, -1 ≤ S1 31 k ∧ S1 31 k ≤ 8) ∧ (RgR S → RgR S1) := by
  obtain ⟨h, h30, hr, rfl, hn, -⟩ := h
  refine ⟨rfl, rfl, mset_hit _ _ _ _, fun i hi => by rw [mset_i hi]; rfl, fun o a b c d => ?_, hr, fun hg => ⟨hg.1, hg.2.1, hg.2.2.1, hg.2.2.2.1, ?_, hg.2.2.2.2.2⟩⟩
  · rw [mset_o a, mput_ne b, mput_ne c, mput_ne d]
  · rw [mset_hit]; omega
theorem nrR_step {S : Mem} {n : Nat} {S1 S2 : Mem} (h : nrR S n S1) (hok : OkD (S 20)) (hf : Fz (S 20) (S 21)) (hp : neP S1 1 S2) : nrR S (n + 1) S2 := by
  have hm := nrR_mem h
  have hG : GR S1 = Gb (rgN (S 21) (S 20) n) (S 21) := by unfold GR; rw [hm.1, hm.2.1]
  obtain ⟨h, h30, hr, hS1, hn, hrow⟩ := h
  obtain ⟨h2, hr2, q | ⟨-, l, h31, q1, q2, q3, q4⟩⟩ := hp
  · exact absurd q.1 (by decide)
  rw [hG] at q1
  rw [hm.1, hm.2.1] at q3
  rw [hm.2.2.1] at q3 q4
  have e30 : S1 30 = h30 := by rw [hS1]; rfl
  rw [e30] at q4
  have hrow2 : ∀ k : Nat, k < n + 1 → ∃ l : List Int, fnd (Gb (rgN (S 21) (S 20) k) (S 21)) = some l ∧ rowIs h31 k (lsR (rgN (S 21) (S 20) k) (S 21) l) l := by
    intro k hk
    by_cases hki : k < n
    · obtain ⟨l, r1, r2⟩ := hrow k hki
      have hl : l.length ≤ 5 := (fnd_is r1).choose_spec.2.2.2
      refine ⟨l, r1, rowIs_cong hl (fun z z0 z7 => q4 _ (fun q => ?_)) r2⟩
      have q3 : rix (n : Int) 0 ≤ rix k z := q.1
      unfold rix at q3
      omega
    · have : k = n := by omega
      subst this
      exact ⟨_, q1, q3⟩
  have h56 := (rgN_56 hok hf (n := n + 1) (fun k hk => by obtain ⟨l, r1, -⟩ := hrow2 k hk; rw [r1]; exact Option.some_ne_none l)).1
  refine ⟨h2, h31, hr2, ?_, h56, hrow2⟩
  have hst : rgN (S 21) (S 20) (n + 1) = ntR (rgN (S 21) (S 20) n) (S 21) l := by
    show stp (S 21) (rgN (S 21) (S 20) n) = _
    unfold stp
    rw [q1]
  rw [q2, hm.1, hm.2.1, hm.2.2.1, hst, hS1]
  simp only [mset_mput]
  funext o
  simp only [mput]
  by_cases h18 : o = 18
  · subst h18
    simp [up_up]
  · by_cases h20 : o = 20
    · subst h20; simp
    · by_cases h30 : o = 30
      · subst h30; simp
      · by_cases h31 : o = 31
        · subst h31; simp
        · simp [h18, h20, h30, h31, mset]
theorem nrR_end {S : Mem} {n : Nat} {S1 S2 : Mem} (h : nrR S n S1) (hp : neP S1 0 S2) : nrR S n S2 ∧ fnd (Gb (rgN (S 21) (S 20) n) (S 21)) = none := by
  have hm := nrR_mem h
  have hG : GR S1 = Gb (rgN (S 21) (S 20) n) (S 21) := by unfold GR; rw [hm.1, hm.2.1]
  obtain ⟨h, h30, hr, hS1, hn, hrow⟩ := h
  obtain ⟨h2, hr2, ⟨-, q1, q2⟩ | q⟩ := hp
  · rw [hG] at q1
    refine ⟨⟨h2, h30, hr2, ?_, hn, hrow⟩, q1⟩
    rw [q2, hS1]
    funext o
    unfold mput mset
    by_cases h31 : o = 31
    · subst h31; simp
    · simp [h31]
  · exact absurd q.1 (by decide)
/-! what is owed among shops only falls in a night -/
def le8 (f g : Fn) : Prop := ∀ i j : Int, 0 ≤ i → i < 8 → 0 ≤ j → j < 8 → f (ix i j) ≤ g (ix i j)
theorem le8_tr {f g h : Fn} (a : le8 f g) (b : le8 g h) : le8 f h := fun i j i0 i8 j0 j8 => Int.le_trans (a i j i0 i8 j0 j8) (b i j i0 i8 j0 j8)
theorem le8_rf (f : Fn) : le8 f f := fun _ _ _ _ _ _ => Int.le_refl _
theorem stp_le (fz ow : Fn) : le8 (stp fz ow) ow := by
  unfold stp
  cases hq : fnd (Gb ow fz) with
  | none => exact le8_rf ow
  | some l =>
    obtain ⟨a, g1, g2, g3, g4⟩ := fnd_is hq
    obtain ⟨r1, r2, r3, r4, r5⟩ := ring_facts g1 g2 g3
    intro i j i0 i8 j0 j8
    have q := r4 i j ⟨j0, by omega⟩
    show ntR ow fz l (ix i j) ≤ ow (ix i j)
    by_cases z : rgE l i j
    · have := q.1 z; omega
    · have := q.2 z; omega
theorem rgN_le (fz ow : Fn) : ∀ n : Nat, le8 (rgN fz ow n) ow
  | 0 => le8_rf ow
  | n + 1 => le8_tr (stp_le fz (rgN fz ow n)) (rgN_le fz ow n)
theorem pyS_le {fz : Fn} {s : Int} {x : Fn × Int} (hs : 0 ≤ s ∧ s < 8) (h : pyOk fz x) : le8 (pyS fz s x).1 x.1 := by
  unfold pyS
  by_cases q : 0 < x.2 ∧ mxF x.1 fz s 8 ≠ -1
  · rw [if_pos q]
    have hm := mxF_is x.1 fz s 8
    have hn := mn_le x.2 (opF x.1 fz (mxF x.1 fz s 8) s)
    rcases hm with z | ⟨z1, z2, z3, -, -⟩
    · exact absurd z.1 q.2
    · intro i j i0 i8 j0 j8
      show adF (adF x.1 _ s _) _ 8 _ (ix i j) ≤ _
      rw [adF_get (by omega) (by omega), adF_get (by omega) (by omega), if_neg (by omega : ¬ (i = mxF x.1 fz s 8 ∧ j = 8))]
      split <;> omega
  · rw [if_neg q]
    exact le8_rf _
theorem pyN_le {fz : Fn} {s : Int} {x : Fn × Int} (hs : 0 ≤ s ∧ s < 8) (h : pyOk fz x) : ∀ n : Nat, le8 (pyN fz s x n).1 x.1
  | 0 => le8_rf _
  | n + 1 => le8_tr (pyS_le hs (pyN_ok hs h n)) (pyN_le hs h n)
theorem py0_ok {S : Mem} {ow : Fn} {s : Int} (hg : RgR S) (hs : 0 ≤ s ∧ s < 8) (h1 : OkD ow) (h2 : Fz ow (S 21)) : pyOk (S 21) (ow, (bl ow s * S 18 15).tdiv 1000) := by
  have hbl := h1.1.bl (x := s) (by omega)
  have r4 := hg.2.2.2.1
  have hmr := mul_rng hbl.1 hbl.2 r4.1 r4.2 (by omega)
  have htd := td_rng (k := 1000) (by omega) hmr.1 hmr.2
  rw [show (200000 : Int) * 500 = 100000000 from rfl] at htd
  exact ⟨h1, h2, htd.1, htd.2⟩
def nOk (S : Mem) (ow : Fn) : Prop := OkD ow ∧ Fz ow (S 21) ∧ le8 ow (S 20)
theorem fyF_ok {S : Mem} {ow : Fn} {s : Int} (hg : RgR S) (hs : 0 ≤ s ∧ s < 8) (h : nOk S ow) : nOk S (fyF S s ow) := by
  unfold fyF
  split
  · have h0 := py0_ok hg hs h.1 h.2.1
    have h1 := pyN_ok hs h0 ((bl ow s * S 18 15).tdiv 1000).toNat
    exact ⟨h1.1, h1.2.1, le8_tr (pyN_le hs h0 _) h.2.2⟩
  · exact h
theorem fyA_ok {S : Mem} {ow : Fn} (hg : RgR S) (h : nOk S ow) {n : Nat} (hn : n ≤ 8) : nOk S (fyA S ow n) := it_inv h (fun k y a b hy => fyF_ok hg (by omega) hy)
theorem lazF_is {S S3 : Mem} {s : Int} (h7 : S3 18 7 = S 18 7) (h14 : S3 18 14 = S 18 14) (h24 : S3 24 = S 24) (h25 : S3 25 = S 25) (h27 : S3 27 = S 27) : lazR S3 s = lazF S (S3 20) s := by
  unfold lazR lazF isofR
  rw [h7, h14, h24, h25, h27]
theorem fyA_step {S : Mem} {ow : Fn} {n : Nat} : fyA S ow (n + 1) = fyF S n (fyA S ow n) := rfl
/-- what holds between the nights -/
def nGd (S : Mem) : Prop := RgR S ∧ OkD (S 20) ∧ Fz (S 20) (S 21) ∧ (∀ k, -1 ≤ S 31 k ∧ S 31 k ≤ 8) ∧ ∀ i j : Int, 0 ≤ i → i < 8 → 0 ≤ j → j < 8 → (S 18 1 ≤ i ∨ S 18 1 ≤ j) → GR S i j = false
theorem GR_le {S : Mem} {ow : Fn} (h : le8 ow (S 20)) (hz : ∀ i j : Int, 0 ≤ i → i < 8 → 0 ≤ j → j < 8 → (S 18 1 ≤ i ∨ S 18 1 ≤ j) → GR S i j = false) : ∀ i j : Int, 0 ≤ i → i < 8 → 0 ≤ j → j < 8 → (S 18 1 ≤ i ∨ S 18 1 ≤ j) → Gb ow (S 21) i j = false := fun i j i0 i8 j0 j8 q => by
  have h1 := of_decide_eq_false (hz i j i0 i8 j0 j8 q)
  have h2 := h i j i0 i8 j0 j8
  exact decide_eq_false (by omega)
theorem nrR_gd {S : Mem} {n : Nat} {S1 : Mem} (h : nrR S n S1) (hg : nGd S) : nGd S1 ∧ nOk S (S1 20) := by
  have hm := nrR_mem h
  obtain ⟨g1, g2, g3, g4, g5⟩ := hg
  have hk := rgN_ok g2 g3 n
  have hl := rgN_le (S 21) (S 20) n
  refine ⟨⟨hm.2.2.2.2.2.2 g1, by rw [hm.1]; exact hk.1, by rw [hm.1, hm.2.1]; exact hk.2, hm.2.2.2.2.2.1, ?_⟩, ?_⟩
  · rw [hm.2.2.2.1 1 (by decide)]
    unfold GR
    rw [hm.1, hm.2.1]
    exact GR_le hl g5
  · rw [hm.1]
    exact ⟨hk.1, hk.2, hl⟩
theorem ngR_gd {S S' : Mem} (h : ngR S S') (hg : nGd S) (ht : S 18 14 < 20000) : nGd S' ∧ S' 18 14 = S 18 14 + 1 ∧ S' 18 0 = S 18 0 := by
  obtain ⟨n, S1, h1, -, rfl⟩ := h
  have hm := nrR_mem h1
  have hk := nrR_gd h1 hg
  obtain ⟨q1, g2, g3, g4, g5⟩ := hk.1
  have r1 := hg.1.1
  have hf := fyA_ok q1 (⟨g2, g3, le8_rf _⟩ : nOk S1 (S1 20)) (n := (S 18 1).toNat) (by omega)
  have e14 := hg.1.2.2.1
  refine ⟨⟨⟨q1.1, q1.2.1, ?_, q1.2.2.2⟩, hf.1, hf.2.1, hm.2.2.2.2.2.1, GR_le (S := S1) hf.2.2 g5⟩, mset_hit _ _ _ _, hm.2.2.2.1 0 (by decide)⟩
  rw [mset_hit]; omega
theorem ngN_gd {S : Mem} : ∀ {n : Nat} {S' : Mem}, ngN n S S' → nGd S → S 18 14 + n ≤ 20000 → nGd S' ∧ S' 18 14 = S 18 14 + n ∧ S' 18 0 = S 18 0
  | 0, S', h, hg, ht => by
    cases (h : S' = S)
    exact ⟨hg, by omega, rfl⟩
  | n + 1, S', h, hg, ht => by
    obtain ⟨S1, h1, h2⟩ := h
    have e := ngN_gd h1 hg (by omega)
    have e2 := ngR_gd h2 e.1 (by omega)
    exact ⟨e2.1, by omega, e2.2.2.trans e.2.2⟩
/-! leaving -/
def rlOk (k : Nat) (x : Fn × Fn × Int × Int) : Prop := (∀ i j : Int, 0 ≤ i → i < 9 → 0 ≤ j → j < 9 → 0 ≤ x.1 (ix i j) ∧ x.1 (ix i j) ≤ 200000) ∧ -(200000 * (k : Int)) ≤ x.2.2.1 ∧ x.2.2.1 ≤ 200000 * (k : Int) ∧ 0 ≤ x.2.2.2 ∧ x.2.2.2 ≤ 400000 * (k : Int)
theorem rlI_ok {s : Int} {x : Fn × Fn × Int × Int} (hs : 0 ≤ s ∧ s < 9) (h : rlOk 0 x) : ∀ n : Nat, n ≤ 9 → rlOk n (rlI s x n)
  | 0, _ => h
  | n + 1, hn => by
    have e := rlI_ok hs h n (by omega)
    show rlOk (n + 1) (rlF s n (rlI s x n))
    generalize rlI s x n = u at e
    obtain ⟨e1, e2, e3, e4, e5⟩ := e
    have a := e1 s n hs.1 hs.2 (by omega) (by omega)
    have b := e1 n s (by omega) (by omega) hs.1 hs.2
    refine ⟨fun i j i0 i9 j0 j9 => ?_, ?_, ?_, ?_, ?_⟩
    · have := e1 i j i0 i9 j0 j9
      show 0 ≤ up (up u.1 _ 0) _ 0 _ ∧ up (up u.1 _ 0) _ 0 _ ≤ _
      unfold up
      split
      · omega
      · split <;> omega
    · show _ ≤ u.2.2.1 + (_ - _); omega
    · show u.2.2.1 + (_ - _) ≤ _; omega
    · show 0 ≤ u.2.2.2 + (_ + _); omega
    · show u.2.2.2 + (_ + _) ≤ _; omega
def rlM (S : Mem) (s : Int) (x : Fn × Fn × Int × Int) : Mem := mput (mput (mput S 20 x.1) 22 x.2.1) 23 (up (S 23) s x.2.2.1)
theorem rlM_step (S : Mem) (s k : Int) (x : Fn × Fn × Int × Int) : mset (mset (mset (mset (mset (rlM S s x) 23 s (rlM S s x 23 s + (x.1 (ix s k) - x.1 (ix k s)))) 20 (ix s k) 0) 20 (ix k s) 0) 22 (ix s k) 0) 22 (ix k s) 0 = rlM S s (rlF s k x) := by
  unfold rlM
  simp only [mset_mput]
  funext o
  simp only [rlF, mput]
  by_cases h23 : o = 23
  · subst h23; simp [up_up, up_same]
  · by_cases h22 : o = 22
    · subst h22; simp
    · by_cases h20 : o = 20
      · subst h20; simp
      · simp [h20, h22, h23]
theorem rlM_0 (S0 : Mem) (s : Int) (P A B : Fn) : mput (mput (mput S0 20 P) 20 A) 22 B = rlM S0 s (rlI s (A, B, S0 23 s, 0) 0) := by
  show _ = mput (mput (mput S0 20 A) 22 B) 23 (up (S0 23) s (S0 23 s))
  rw [up_self, mput_mput]
  exact (mput_self (mput (mput S0 20 A) 22 B) 23).symm
