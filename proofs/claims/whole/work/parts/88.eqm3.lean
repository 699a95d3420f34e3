/-! ===== class and reference do the same: paying the fee ===== -/
theorem gdF_is (ow fz : Fn) (s : Int) : ∀ n : Nat, (∀ k : Int, 0 ≤ k → k ≤ n → opF ow fz k s ≤ opF ow fz (gdF ow fz s n) s) ∧ ∀ k : Int, 0 ≤ k → k < gdF ow fz s n → opF ow fz k s < opF ow fz (gdF ow fz s n) s
  | 0 => ⟨fun k k0 k1 => by rw [show k = 0 by omega]; exact Int.le_refl _, fun k k0 k1 => absurd (show k < 0 from k1) (by omega)⟩
  | n + 1 => by
    obtain ⟨e1, e2⟩ := gdF_is ow fz s n
    have e0 := gdF_in ow fz s n
    unfold gdF
    by_cases q : ow (ix (gdF ow fz s n) s) - fz (ix (gdF ow fz s n) s) < ow (ix ((n : Int) + 1) s) - fz (ix ((n : Int) + 1) s)
    · rw [if_pos q]
      have q' : opF ow fz (gdF ow fz s n) s < opF ow fz ((n : Int) + 1) s := q
      refine ⟨fun k k0 k1 => ?_, fun k k0 k1 => ?_⟩
      · by_cases qk : k = (n : Int) + 1
        · rw [qk]; exact Int.le_refl _
        · have := e1 k k0 (by omega); omega
      · have := e1 k k0 (by omega); omega
    · rw [if_neg q]
      have q' : ¬ opF ow fz (gdF ow fz s n) s < opF ow fz ((n : Int) + 1) s := q
      refine ⟨fun k k0 k1 => ?_, e2⟩
      by_cases qk : k = (n : Int) + 1
      · rw [qk]; omega
      · exact e1 k k0 (by omega)
/-- all that is open towards a shop, and how many owe it -/
def opS (ow fz : Fn) (s : Int) : Int := sI (fun k => opF ow fz k s) 8
def opC (ow fz : Fn) (s : Int) : Int := sI (fun k => if 0 < opF ow fz k s then 1 else 0) 8
theorem opF_nn {ow fz : Fn} (h : Fz ow fz) {k s : Int} (hk : 0 ≤ k ∧ k < 8) (hs : 0 ≤ s ∧ s < 8) : 0 ≤ opF ow fz k s := by
  have := h k s hk.1 (by omega) hs.1 (by omega)
  unfold opF
  omega
theorem opS_pos {ow fz : Fn} {s : Int} (h : Fz ow fz) (hs : 0 ≤ s ∧ s < 8) (hp : 0 < opS ow fz s) : mxF ow fz s 8 ≠ -1 ∧ gdF ow fz s 7 = mxF ow fz s 8 := by
  rcases mxF_is ow fz s 8 with ⟨-, q⟩ | ⟨q1, q2, q3, q4, q5⟩
  · exfalso
    have : opS ow fz s = sI (fun _ => 0) 8 := sI_cong (fun k k0 k1 => by
      have a := q k k0 k1
      have b := opF_nn h (k := k) ⟨k0, k1⟩ hs
      omega)
    rw [this] at hp
    exact absurd hp (by decide)
  · refine ⟨by omega, ?_⟩
    have e0 := gdF_in ow fz s 7
    obtain ⟨e1, e2⟩ := gdF_is ow fz s 7
    rcases Int.lt_trichotomy (gdF ow fz s 7) (mxF ow fz s 8) with z | z | z
    · have a := q5 _ e0.1 z
      have b := e1 _ q1 (by omega)
      omega
    · exact z
    · have a := e2 _ q1 z
      have b := q4 _ e0.1 (by omega)
      omega
theorem pyN_shift {fz : Fn} {s : Int} {x : Fn × Int} : ∀ j : Nat, pyN fz s (pyS fz s x) j = pyN fz s x (j + 1)
  | 0 => rfl
  | j + 1 => by
    show pyS fz s (pyN fz s (pyS fz s x) j) = pyS fz s (pyN fz s x (j + 1))
    rw [pyN_shift j]
theorem pay_op {ow fz : Fn} {b s m k : Int} (hb : 0 ≤ b ∧ b < 8) (hs : 0 ≤ s ∧ s < 8) : opF (adF (adF ow b s (-m)) b 8 m) fz k s = opF ow fz k s - if k = b then m else 0 := by
  unfold opF
  rw [adF_get (by omega) (by omega), adF_get (by omega) (by omega), if_neg (by omega : ¬ (k = b ∧ s = 8))]
  by_cases q : k = b
  · rw [if_pos ⟨q, rfl⟩, if_pos q]; omega
  · rw [if_neg (fun z => q z.1), if_neg q]; omega
theorem mn_min {a b : Int} : mn a b = if b < a then b else a := rfl
theorem pfL_py {fz : Fn} {s : Int} (hs : 0 ≤ s ∧ s < 8) : ∀ (n : Nat) (f gu : Fn) (rc rr : Int), OkD f → Fz f fz → rc = mn rr (opS f fz s) → opC f fz s ≤ n → ∃ j, (pfL fz s n (f, gu, rc)).1 = (pyN fz s (f, rr) j).1 ∧ pystuck fz s (pyN fz s (f, rr) j) := by
  have stuck : ∀ (f : Fn) (rc rr : Int), Fz f fz → rc = mn rr (opS f fz s) → ¬ 0 < rc → pystuck fz s (f, rr) := by
    intro f rc rr hf hrc hn
    by_cases q : 0 < rr
    · refine Or.inr ?_
      rcases mxF_is f fz s 8 with z | ⟨z1, z2, z3, -, -⟩
      · exact z.1
      · exfalso
        have a : opF f fz (mxF f fz s 8) s ≤ opS f fz s := sI_ge (n := 8) (f := fun k => opF f fz k s) (fun x x0 x1 => opF_nn hf ⟨x0, x1⟩ hs) z1 z2
        have b := (mn_le rr (opS f fz s)).2.2
        omega
    · exact Or.inl q
  intro n
  induction n with
  | zero =>
    intro f gu rc rr hok hf hrc hcn
    refine ⟨0, rfl, stuck f rc rr hf hrc (fun hp => ?_)⟩
    have b := mn_le rr (opS f fz s)
    have e := opS_pos hf hs (by omega)
    rcases mxF_is f fz s 8 with z | ⟨z1, z2, z3, -, -⟩
    · exact e.1 z.1
    · have a := sI_ge (n := 8) (f := fun k => if 0 < opF f fz k s then (1 : Int) else 0) (k := mxF f fz s 8) (fun x x0 x1 => by show (0 : Int) ≤ if _ then 1 else 0; split <;> omega) z1 z2
      have a' : (if 0 < opF f fz (mxF f fz s 8) s then (1 : Int) else 0) ≤ opC f fz s := a
      rw [if_pos z3] at a'
      omega
  | succ n ih =>
    intro f gu rc rr hok hf hrc hcn
    by_cases hp : 0 < rc
    · have hb0 := mn_le rr (opS f fz s)
      obtain ⟨e1, e2⟩ := opS_pos hf hs (by omega)
      rcases mxF_is f fz s 8 with z | ⟨z1, z2, z3, -, -⟩
      · exact absurd z.1 e1
      have hle : opF f fz (mxF f fz s 8) s ≤ opS f fz s := sI_ge (n := 8) (f := fun k => opF f fz k s) (fun x x0 x1 => opF_nn hf ⟨x0, x1⟩ hs) z1 z2
      have hm : mn rc (opF f fz (mxF f fz s 8) s) = mn rr (opF f fz (mxF f fz s 8) s) := by
        rw [hrc]
        unfold mn
        repeat' split
        all_goals omega
      generalize hB : mxF f fz s 8 = b at *
      generalize hM : mn rr (opF f fz b s) = m at *
      have hmm := mn_le rr (opF f fz b s)
      rw [hM] at hmm
      have hpy : pyS fz s (f, rr) = (adF (adF f b s (-m)) b 8 m, rr - m) := by
        unfold pyS
        rw [if_pos ⟨by show 0 < rr; omega, by show mxF f fz s 8 ≠ -1; rw [hB]; exact e1⟩]
        show (adF (adF f (mxF f fz s 8) s _) (mxF f fz s 8) 8 _, rr - _) = _
        rw [hB, hM]
      have hpf : ∃ gu', pfF fz s (f, gu, rc) = (adF (adF f b s (-m)) b 8 m, gu', rc - m) := by
        refine ⟨adF gu s 8 m, ?_⟩
        show (adF (adF f (gdF f fz s 7) s (-(mn rc (opF f fz (gdF f fz s 7) s)))) (gdF f fz s 7) 8 (mn rc (opF f fz (gdF f fz s 7) s)), adF gu s 8 (mn rc (opF f fz (gdF f fz s 7) s)), rc - mn rc (opF f fz (gdF f fz s 7) s)) = _
        rw [e2, hm]
      obtain ⟨gu', hpf⟩ := hpf
      have hko := pay_ok (ow := f) (fz := fz) (b := b) (s := s) (m := m) ⟨z1, z2⟩ hs hok hf ⟨by omega, hmm.2.1⟩
      have hop : ∀ k : Int, opF (adF (adF f b s (-m)) b 8 m) fz k s = opF f fz k s - if k = b then m else 0 := fun k => pay_op ⟨z1, z2⟩ hs
      have hS : opS (adF (adF f b s (-m)) b 8 m) fz s = opS f fz s - m := by
        have := sI_one (n := 8) (f := fun k => opF f fz k s) (g := fun k => opF (adF (adF f b s (-m)) b 8 m) fz k s) z1 z2 (fun x _ _ hx => by
          show opF _ _ _ _ = opF _ _ _ _
          rw [hop x, if_neg hx, Int.sub_zero])
        have h2 := hop b
        rw [if_pos rfl] at h2
        unfold opS
        rw [this]
        show sI _ 8 - opF f fz b s + opF _ fz b s = _
        rw [h2]
        omega
      have hrc' : rc - m = mn (rr - m) (opS (adF (adF f b s (-m)) b 8 m) fz s) := by
        rw [hS, hrc]
        unfold mn
        repeat' split
        all_goals omega
      have hL : pfL fz s (n + 1) (f, gu, rc) = pfL fz s n (adF (adF f b s (-m)) b 8 m, gu', rc - m) := by
        show (if 0 < rc then pfL fz s n (pfF fz s (f, gu, rc)) else (f, gu, rc)) = _
        rw [if_pos hp, hpf]
      by_cases hz : rc - m = 0
      · refine ⟨1, ?_, ?_⟩
        · rw [hL, pfL_stop (by show ¬ 0 < rc - m; omega)]
          show _ = (pyS fz s (f, rr)).1
          rw [hpy]
        · show pystuck fz s (pyS fz s (f, rr))
          rw [hpy]
          exact stuck _ (rc - m) (rr - m) hko.2 hrc' (by omega)
      · have hC : opC (adF (adF f b s (-m)) b 8 m) fz s = opC f fz s - 1 := by
          have h2 := hop b
          rw [if_pos rfl] at h2
          have hmb : m = opF f fz b s := by
            have h3 := mn_le rc (opF f fz b s)
            rw [hm] at h3
            omega
          have := sI_one (n := 8) (f := fun k => if 0 < opF f fz k s then (1 : Int) else 0) (g := fun k => if 0 < opF (adF (adF f b s (-m)) b 8 m) fz k s then (1 : Int) else 0) z1 z2 (fun x _ _ hx => by
            show (if 0 < opF _ _ _ _ then (1 : Int) else 0) = if 0 < opF _ _ _ _ then (1 : Int) else 0
            rw [hop x, if_neg hx, Int.sub_zero])
          unfold opC
          rw [this]
          show sI _ 8 - (if 0 < opF f fz b s then (1 : Int) else 0) + (if 0 < opF _ fz b s then (1 : Int) else 0) = _
          rw [h2, if_pos z3, if_neg (by omega)]
          omega
        obtain ⟨j, j1, j2⟩ := ih (adF (adF f b s (-m)) b 8 m) gu' (rc - m) (rr - m) hko.1 hko.2 hrc' (by omega)
        refine ⟨j + 1, ?_, ?_⟩
        · rw [hL, j1, ← pyN_shift, hpy]
        · rw [← pyN_shift, hpy]; exact j2
    · refine ⟨0, ?_, stuck f rc rr hf hrc hp⟩
      rw [pfL_stop (by show ¬ 0 < rc; exact hp)]
      rfl
theorem opC_8 (f fz : Fn) (s : Int) : opC f fz s ≤ 8 := by
  unfold opC
  have h : ∀ n : Nat, sI (fun k => if 0 < opF f fz k s then (1 : Int) else 0) n ≤ n := by
    intro n
    induction n with
    | zero => exact Int.le_refl 0
    | succ n ih =>
      rw [sI]
      have : (if 0 < opF f fz (n : Int) s then (1 : Int) else 0) ≤ 1 := by split <;> omega
      show _ + (if 0 < opF f fz (n : Int) s then (1 : Int) else 0) ≤ _
      omega
  exact h 8
theorem pf_py {fz f gu : Fn} {s rr : Int} (hs : 0 ≤ s ∧ s < 8) (hok : OkD f) (hf : Fz f fz) (hr : -100000000 ≤ rr ∧ rr ≤ 100000000) : (pfL fz s 8 (f, gu, mn rr (opS f fz s))).1 = (pyE fz s (f, rr)).1 := by
  obtain ⟨j, j1, j2⟩ := pfL_py hs 8 f gu _ rr hok hf rfl (opC_8 f fz s)
  rw [j1, pyE_is hs ⟨hok, hf, hr⟩ j2]
