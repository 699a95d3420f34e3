/-! ===== kept by dispute and settle ===== -/
section
variable {S T : Mem}
theorem Iv_disp (h : Iv S) {t : Int} (t0 : 0 ≤ t) (t1 : t < S 18 7) (hst : S 28 t = 0) (hb : livR S (S 24 t) = true) (hs : livR S (S 25 t) = true) (eo : ∀ o : Nat, o < 32 → o ≠ 5 → o ≠ 10 → o ≠ 18 → o ≠ 21 → o ≠ 28 → o ≠ 29 → T o = S o)
    (ht : ∀ u w : Int, ¬ (u = t ∧ (w = 0 ∨ w = 5)) → trd T u w = trd S u w) (h0 : trd T t 0 = 1) (h5 : trd T t 5 = ptD S t)
    (c10 : T 10 = adF (S 10) (S 24 t) (S 25 t) (ptD S t)) (c21 : T 21 = adF (S 21) (S 24 t) (S 25 t) (ptD S t)) (c28 : T 28 = up (S 28) t 1) (c29 : T 29 = up (S 29) t (ptD S t)) (e18 : ∀ i : Int, i ≠ 0 → T 18 i = S 18 i) : Iv T := by
  have hok := Iv_ok h
  obtain ⟨⟨r1, r2, r3, r4, r5, r6, r7, r8, rT, rR, rS⟩, ⟨g1, g2, g3, g4, g5, g6, g7⟩, ⟨o1, o2, o3⟩, ⟨hF1, hF2⟩, hD, hG, hT, hP, hS, hB, hU, hC, hW, hR⟩ := h
  have c0 := eo 0 (by decide) (by decide) (by decide) (by decide) (by decide) (by decide) (by decide)
  have c2 := eo 2 (by decide) (by decide) (by decide) (by decide) (by decide) (by decide) (by decide)
  have c3 := eo 3 (by decide) (by decide) (by decide) (by decide) (by decide) (by decide) (by decide)
  have c8 := eo 8 (by decide) (by decide) (by decide) (by decide) (by decide) (by decide) (by decide)
  have c12 := eo 12 (by decide) (by decide) (by decide) (by decide) (by decide) (by decide) (by decide)
  have c14 := eo 14 (by decide) (by decide) (by decide) (by decide) (by decide) (by decide) (by decide)
  have c15 := eo 15 (by decide) (by decide) (by decide) (by decide) (by decide) (by decide) (by decide)
  have c17 := eo 17 (by decide) (by decide) (by decide) (by decide) (by decide) (by decide) (by decide)
  have c19 := eo 19 (by decide) (by decide) (by decide) (by decide) (by decide) (by decide) (by decide)
  have c20 := eo 20 (by decide) (by decide) (by decide) (by decide) (by decide) (by decide) (by decide)
  have c22 := eo 22 (by decide) (by decide) (by decide) (by decide) (by decide) (by decide) (by decide)
  have c23 := eo 23 (by decide) (by decide) (by decide) (by decide) (by decide) (by decide) (by decide)
  have c24 := eo 24 (by decide) (by decide) (by decide) (by decide) (by decide) (by decide) (by decide)
  have c25 := eo 25 (by decide) (by decide) (by decide) (by decide) (by decide) (by decide) (by decide)
  have c26 := eo 26 (by decide) (by decide) (by decide) (by decide) (by decide) (by decide) (by decide)
  have c27 := eo 27 (by decide) (by decide) (by decide) (by decide) (by decide) (by decide) (by decide)
  have c30 := eo 30 (by decide) (by decide) (by decide) (by decide) (by decide) (by decide) (by decide)
  have c31 := eo 31 (by decide) (by decide) (by decide) (by decide) (by decide) (by decide) (by decide)
  have f1 := e18 1 (by decide)
  have f7 := e18 7 (by decide)
  have f14 := e18 14 (by decide)
  have f15 := e18 15 (by decide)
  have f16 := e18 16 (by decide)
  have c3' : T 3 1 = S 3 1 := by rw [c3]
  have c151 : T 15 1 = S 15 1 := by rw [c15]
  have c06 : T 0 6 = S 0 6 := by rw [c0]
  have lv : ∀ s : Int, livR T s = livR S s := fr_liv f1 c19
  have gt := g7 t
  have b9 : 0 ≤ S 24 t ∧ S 24 t < 9 := by omega
  have s9 : 0 ≤ S 25 t ∧ S 25 t < 9 := by omega
  have q1 := hF1 _ _ b9.1 b9.2 s9.1 s9.2
  have q2 := hok.1.ent (i := S 24 t) (j := S 25 t) b9 s9
  have hp : 0 ≤ ptD S t ∧ ptD S t ≤ S 26 t ∧ ptD S t ≤ S 20 (ix (S 24 t) (S 25 t)) - S 21 (ix (S 24 t) (S 25 t)) := by
    have := mn_le (S 26 t) (S 20 (ix (S 24 t) (S 25 t)) - S 21 (ix (S 24 t) (S 25 t)))
    unfold ptD
    omega
  generalize ptD S t = p at hp h5 c10 c21 c29
  have get : ∀ x y : Int, 0 ≤ y → y < 9 → T 21 (ix x y) = S 21 (ix x y) + if x = S 24 t ∧ y = S 25 t then p else 0 := fun x y y0 y9 => by
    rw [c21]; exact adF_get s9 ⟨y0, y9⟩
  have tn : t < ((S 18 7).toNat : Int) := by omega
  have eN : nvd (T 28) (T 18 7) = nvd (S 28) (S 18 7) := by
    rw [c28, f7]
    unfold nvd
    refine sI_cong (fun u u0 u1 => ?_)
    show (if up _ _ _ u = 2 then (0 : Int) else 1) = if S 28 u = 2 then 0 else 1
    by_cases q : u = t
    · rw [q, up_same, hst]; rfl
    · rw [up_ne q]
  have eF : ∀ x y : Int, fzs (T 28) (T 24) (T 25) (T 29) (T 18 7) x y = fzs (S 28) (S 24) (S 25) (S 29) (S 18 7) x y + if x = S 24 t ∧ y = S 25 t then p else 0 := by
    intro x y
    rw [c28, c24, c25, c29, f7]
    unfold fzs
    rw [sI_one (f := fun u => if S 28 u = 1 ∧ S 24 u = x ∧ S 25 u = y then S 29 u else (0 : Int)) (k := t) t0 tn (fun u u0 u1 hu => by
      show (if up _ _ _ u = 1 ∧ _ ∧ _ then up _ _ _ u else (0 : Int)) = if S 28 u = 1 ∧ S 24 u = x ∧ S 25 u = y then S 29 u else 0
      rw [up_ne hu, up_ne hu])]
    show _ - (if S 28 t = 1 ∧ S 24 t = x ∧ S 25 t = y then S 29 t else (0 : Int)) + (if up (S 28) t 1 t = 1 ∧ S 24 t = x ∧ S 25 t = y then up (S 29) t p t else (0 : Int)) = _
    rw [up_same, up_same, if_neg (fun q => absurd (hst.symm.trans q.1) (by decide)), Int.sub_zero]
    congr 1
    by_cases z : x = S 24 t ∧ y = S 25 t
    · rw [if_pos z, if_pos ⟨rfl, z.1.symm, z.2.symm⟩]
    · rw [if_neg z, if_neg (fun q => z ⟨q.2.1.symm, q.2.2.symm⟩)]
  have eB : ∀ x : Int, blT (T 28) (T 24) (T 25) (T 26) (T 18 7) x = blT (S 28) (S 24) (S 25) (S 26) (S 18 7) x := by
    intro x
    rw [c28, c24, c25, c26, f7]
    unfold blT
    refine sI_cong (fun u u0 u1 => ?_)
    show (if up _ _ _ u ≠ 2 ∧ _ then _ else (0 : Int)) - (if up _ _ _ u ≠ 2 ∧ _ then _ else (0 : Int)) = (if S 28 u ≠ 2 ∧ S 25 u = x then S 26 u else 0) - (if S 28 u ≠ 2 ∧ S 24 u = x then S 26 u else 0)
    by_cases q : u = t
    · rw [q, up_same, hst]
      simp
    · rw [up_ne q]
  refine ⟨⟨by rw [c8, c20]; exact r1, by rw [c10, c21, r2], by rw [c12, c22]; exact r3, by rw [c0, f1]; exact r4, by rw [c0, f14]; exact r5, by rw [c0, f15]; exact r6, by rw [c3, f7]; exact r7, by rw [c15, f16]; exact r8, ?_, fr_RelR c17 c151 c30 rR, fr_RelS c2 c06 c19 c23 rS⟩, ⟨by omega, by omega, by omega, by omega, by omega, by rw [c19]; exact g6, ?_⟩, ⟨by rw [c20]; exact o1, by rw [c20]; exact o2, by rw [eN, c20, f7]; exact o3⟩, ⟨fun i j i0 i9 j0 j9 => ?_, fun x y x0 x9 y0 y9 => ?_⟩, fr_IvD c20 (fun s q => by rw [← lv s]; exact q) hD, fr_IvG c22 (fun s q => by rw [← lv s]; exact q) hG, fun u u0 u1 => ?_, fun u u0 u1 => ?_, fr_IvS f1 c19 c23 hS, fun x x0 x9 => ?_, fr_IvU (by omega) c2 hU, ⟨by rw [c2]; exact hC.1, fun u w => ?_⟩, fr_IvW c31 hW, fr_IvR c30 f16 hR⟩
  · intro u u0 u1
    rw [c3'] at u1
    by_cases q : u = t
    · obtain ⟨a0, a1, a2, a3, a4, a5⟩ := rT u u0 u1
      rw [ht u 1 (by omega), ht u 2 (by omega), ht u 3 (by omega), ht u 4 (by omega), c24, c25, c26, c27, c28, c29]
      refine ⟨?_, a1, a2, a3, a4, ?_⟩
      · rw [q, h0, up_same]
      · rw [q, h5, up_same]
    · rw [ht u 0 (by omega), ht u 1 (by omega), ht u 2 (by omega), ht u 3 (by omega), ht u 4 (by omega), ht u 5 (by omega), c24, c25, c26, c27, c28, c29, up_ne q, up_ne q]
      exact rT u u0 u1
  · intro u
    rw [c24, c25, c26, c27, c28, c29]
    have := g7 u
    unfold up
    split
    · omega
    · exact this
  · have := hF1 i j i0 i9 j0 j9
    rw [get i j j0 j9, c20]
    split
    · rename_i z
      rw [z.1, z.2] at this ⊢
      omega
    · omega
  · rw [get x y y0 y9, eF, hF2 x y x0 x9 y0 y9]
  · rw [f7] at u1
    rw [c24, c25, c26, c28, c29, f1, lv, lv]
    obtain ⟨a1, a2, a3, a4, a5⟩ := hT u u0 u1
    by_cases q : u = t
    · rw [q, up_same, up_same]
      rw [q] at a1 a2 a3
      exact ⟨a1, a2, a3, fun _ => ⟨hb, hs⟩, hp.2.1⟩
    · rw [up_ne q, up_ne q]
      exact ⟨a1, a2, a3, a4, a5⟩
  · rw [f7] at u0
    rw [ht u 5 (by omega), c29, up_ne (by omega)]
    exact hP u u0 u1
  · rw [eB x, c20, c14]
    exact hB x x0 x9
  · by_cases q : u = t ∧ (w = 0 ∨ w = 5)
    · rcases q.2 with w0 | w0
      · rw [q.1, w0, h0]; omega
      · rw [q.1, w0, h5]; omega
    · rw [ht u w q]
      exact hC.2 u w
theorem fzs_ge (h : Iv S) {t : Int} (t0 : 0 ≤ t) (t1 : t < S 18 7) (hst : S 28 t = 1) : S 29 t ≤ S 21 (ix (S 24 t) (S 25 t)) ∧ 0 ≤ S 29 t := by
  have g7 := h.2.1.2.2.2.2.2.2
  have gt := g7 t
  rw [h.2.2.2.1.2 (S 24 t) (S 25 t) (by omega) (by omega) (by omega) (by omega)]
  unfold fzs
  have e := sI_ge (f := fun u => if S 28 u = 1 ∧ S 24 u = S 24 t ∧ S 25 u = S 25 t then S 29 u else (0 : Int)) (n := (S 18 7).toNat) (k := t) (fun u u0 u1 => by
    show 0 ≤ if _ then S 29 u else (0 : Int)
    have := g7 u
    split <;> omega) t0 (by omega)
  have e2 : (if S 28 t = 1 ∧ S 24 t = S 24 t ∧ S 25 t = S 25 t then S 29 t else (0 : Int)) = S 29 t := if_pos ⟨hst, rfl, rfl⟩
  have e3 : (if S 28 t = 1 ∧ S 24 t = S 24 t ∧ S 25 t = S 25 t then S 29 t else (0 : Int)) ≤ sI (fun u => if S 28 u = 1 ∧ S 24 u = S 24 t ∧ S 25 u = S 25 t then S 29 u else (0 : Int)) (S 18 7).toNat := e
  rw [e2] at e3
  exact ⟨e3, by omega⟩
theorem Iv_sett (h : Iv S) {t st pz mo : Int} (t0 : 0 ≤ t) (t1 : t < S 18 7) (hst : S 28 t = 1) (hz : (st = 0 ∧ pz = 0 ∧ mo = 0) ∨ (st = 2 ∧ pz = S 29 t ∧ mo = S 26 t - S 29 t)) (eo : ∀ o : Nat, o < 32 → o ≠ 5 → o ≠ 8 → o ≠ 10 → o ≠ 18 → o ≠ 20 → o ≠ 21 → o ≠ 28 → o ≠ 29 → T o = S o)
    (ht : ∀ u w : Int, ¬ (u = t ∧ (w = 0 ∨ w = 5)) → trd T u w = trd S u w) (h0 : trd T t 0 = st) (h5 : trd T t 5 = 0)
    (c8 : T 8 = adF (adF (S 8) (S 24 t) (S 25 t) (-pz)) (S 25 t) (S 24 t) mo) (c20 : T 20 = adF (adF (S 20) (S 24 t) (S 25 t) (-pz)) (S 25 t) (S 24 t) mo) (c10 : T 10 = adF (S 10) (S 24 t) (S 25 t) (-(S 29 t))) (c21 : T 21 = adF (S 21) (S 24 t) (S 25 t) (-(S 29 t))) (c28 : T 28 = up (S 28) t st) (c29 : T 29 = up (S 29) t 0) (e18 : ∀ i : Int, i ≠ 0 → T 18 i = S 18 i) : Iv T := by
  have hok := Iv_ok h
  have hge := fzs_ge h t0 t1 hst
  obtain ⟨⟨r1, r2, r3, r4, r5, r6, r7, r8, rT, rR, rS⟩, ⟨g1, g2, g3, g4, g5, g6, g7⟩, ⟨o1, o2, o3⟩, ⟨hF1, hF2⟩, hD, hG, hT, hP, hS, hB, hU, hC, hW, hR⟩ := h
  have c0 := eo 0 (by decide) (by decide) (by decide) (by decide) (by decide) (by decide) (by decide) (by decide) (by decide)
  have c2 := eo 2 (by decide) (by decide) (by decide) (by decide) (by decide) (by decide) (by decide) (by decide) (by decide)
  have c3 := eo 3 (by decide) (by decide) (by decide) (by decide) (by decide) (by decide) (by decide) (by decide) (by decide)
  have c12 := eo 12 (by decide) (by decide) (by decide) (by decide) (by decide) (by decide) (by decide) (by decide) (by decide)
  have c14 := eo 14 (by decide) (by decide) (by decide) (by decide) (by decide) (by decide) (by decide) (by decide) (by decide)
  have c15 := eo 15 (by decide) (by decide) (by decide) (by decide) (by decide) (by decide) (by decide) (by decide) (by decide)
  have c17 := eo 17 (by decide) (by decide) (by decide) (by decide) (by decide) (by decide) (by decide) (by decide) (by decide)
  have c19 := eo 19 (by decide) (by decide) (by decide) (by decide) (by decide) (by decide) (by decide) (by decide) (by decide)
  have c22 := eo 22 (by decide) (by decide) (by decide) (by decide) (by decide) (by decide) (by decide) (by decide) (by decide)
  have c23 := eo 23 (by decide) (by decide) (by decide) (by decide) (by decide) (by decide) (by decide) (by decide) (by decide)
  have c24 := eo 24 (by decide) (by decide) (by decide) (by decide) (by decide) (by decide) (by decide) (by decide) (by decide)
  have c25 := eo 25 (by decide) (by decide) (by decide) (by decide) (by decide) (by decide) (by decide) (by decide) (by decide)
  have c26 := eo 26 (by decide) (by decide) (by decide) (by decide) (by decide) (by decide) (by decide) (by decide) (by decide)
  have c27 := eo 27 (by decide) (by decide) (by decide) (by decide) (by decide) (by decide) (by decide) (by decide) (by decide)
  have c30 := eo 30 (by decide) (by decide) (by decide) (by decide) (by decide) (by decide) (by decide) (by decide) (by decide)
  have c31 := eo 31 (by decide) (by decide) (by decide) (by decide) (by decide) (by decide) (by decide) (by decide) (by decide)
  have f1 := e18 1 (by decide)
  have f7 := e18 7 (by decide)
  have f14 := e18 14 (by decide)
  have f15 := e18 15 (by decide)
  have f16 := e18 16 (by decide)
  have c3' : T 3 1 = S 3 1 := by rw [c3]
  have c151 : T 15 1 = S 15 1 := by rw [c15]
  have c06 : T 0 6 = S 0 6 := by rw [c0]
  have lv : ∀ s : Int, livR T s = livR S s := fr_liv f1 c19
  have gt := g7 t
  obtain ⟨T1, T2, T3, T4, T5⟩ := hT t t0 t1
  obtain ⟨hb, hs⟩ := T4 hst
  have b9 : 0 ≤ S 24 t ∧ S 24 t < 9 := by omega
  have s9 : 0 ≤ S 25 t ∧ S 25 t < 9 := by omega
  have q1 := hF1 _ _ b9.1 b9.2 s9.1 s9.2
  have st02 : st = 0 ∨ st = 2 := by omega
  have get : ∀ x y : Int, 0 ≤ y → y < 9 → T 21 (ix x y) = S 21 (ix x y) + if x = S 24 t ∧ y = S 25 t then -(S 29 t) else 0 := fun x y y0 y9 => by
    rw [c21]; exact adF_get s9 ⟨y0, y9⟩
  have get2 : ∀ x y : Int, 0 ≤ y → y < 9 → T 20 (ix x y) = S 20 (ix x y) + (if x = S 24 t ∧ y = S 25 t then -pz else 0) + if x = S 25 t ∧ y = S 24 t then mo else 0 := fun x y y0 y9 => by
    rw [c20, adF_get b9 ⟨y0, y9⟩, adF_get s9 ⟨y0, y9⟩]
  have tn : t < ((S 18 7).toNat : Int) := by omega
  have eN : nvd (T 28) (T 18 7) = nvd (S 28) (S 18 7) - if st = 2 then 1 else 0 := by
    rw [c28, f7]
    unfold nvd
    rw [sI_one (f := fun u => if S 28 u = 2 then (0 : Int) else 1) (k := t) t0 tn (fun u u0 u1 hu => by
      show (if up _ _ _ u = 2 then (0 : Int) else 1) = if S 28 u = 2 then 0 else 1
      rw [up_ne hu])]
    show _ - (if S 28 t = 2 then (0 : Int) else 1) + (if up (S 28) t st t = 2 then (0 : Int) else 1) = _
    rw [up_same, if_neg (fun q => absurd (hst.symm.trans q) (by decide))]
    rcases st02 with q | q
    · rw [q, if_neg (by decide), if_neg (by decide)]; omega
    · rw [q, if_pos rfl, if_pos rfl]; omega
  have eF : ∀ x y : Int, fzs (T 28) (T 24) (T 25) (T 29) (T 18 7) x y = fzs (S 28) (S 24) (S 25) (S 29) (S 18 7) x y + if x = S 24 t ∧ y = S 25 t then -(S 29 t) else 0 := by
    intro x y
    rw [c28, c24, c25, c29, f7]
    unfold fzs
    rw [sI_one (f := fun u => if S 28 u = 1 ∧ S 24 u = x ∧ S 25 u = y then S 29 u else (0 : Int)) (k := t) t0 tn (fun u u0 u1 hu => by
      show (if up _ _ _ u = 1 ∧ _ ∧ _ then up _ _ _ u else (0 : Int)) = if S 28 u = 1 ∧ S 24 u = x ∧ S 25 u = y then S 29 u else 0
      rw [up_ne hu, up_ne hu])]
    show _ - (if S 28 t = 1 ∧ S 24 t = x ∧ S 25 t = y then S 29 t else (0 : Int)) + (if up (S 28) t st t = 1 ∧ S 24 t = x ∧ S 25 t = y then up (S 29) t 0 t else (0 : Int)) = _
    rw [up_same, up_same, if_neg (c := st = 1 ∧ S 24 t = x ∧ S 25 t = y) (fun q => by have := q.1; omega)]
    by_cases z : x = S 24 t ∧ y = S 25 t
    · rw [if_pos z, if_pos ⟨hst, z.1.symm, z.2.symm⟩]; omega
    · rw [if_neg z, if_neg (fun q => z ⟨q.2.1.symm, q.2.2.symm⟩)]; omega
  have eB : ∀ x : Int, blT (T 28) (T 24) (T 25) (T 26) (T 18 7) x = blT (S 28) (S 24) (S 25) (S 26) (S 18 7) x - if st = 2 then ((if x = S 25 t then S 26 t else 0) - if x = S 24 t then S 26 t else 0) else 0 := by
    intro x
    rw [c28, c24, c25, c26, f7]
    unfold blT
    rw [sI_one (f := fun u => (if S 28 u ≠ 2 ∧ S 25 u = x then S 26 u else (0 : Int)) - (if S 28 u ≠ 2 ∧ S 24 u = x then S 26 u else 0)) (k := t) t0 tn (fun u u0 u1 hu => by
      show (if up _ _ _ u ≠ 2 ∧ _ then _ else (0 : Int)) - (if up _ _ _ u ≠ 2 ∧ _ then _ else (0 : Int)) = (if S 28 u ≠ 2 ∧ S 25 u = x then S 26 u else 0) - (if S 28 u ≠ 2 ∧ S 24 u = x then S 26 u else 0)
      rw [up_ne hu])]
    show _ - ((if S 28 t ≠ 2 ∧ S 25 t = x then S 26 t else (0 : Int)) - (if S 28 t ≠ 2 ∧ S 24 t = x then S 26 t else 0)) + ((if up (S 28) t st t ≠ 2 ∧ S 25 t = x then S 26 t else (0 : Int)) - (if up (S 28) t st t ≠ 2 ∧ S 24 t = x then S 26 t else 0)) = _
    rw [up_same, hst]
    have w1 : (if (1 : Int) ≠ 2 ∧ S 25 t = x then S 26 t else (0 : Int)) = if x = S 25 t then S 26 t else 0 := by
      by_cases z : x = S 25 t
      · rw [if_pos z, if_pos ⟨by decide, z.symm⟩]
      · rw [if_neg z, if_neg (fun q => z q.2.symm)]
    have w2 : (if (1 : Int) ≠ 2 ∧ S 24 t = x then S 26 t else (0 : Int)) = if x = S 24 t then S 26 t else 0 := by
      by_cases z : x = S 24 t
      · rw [if_pos z, if_pos ⟨by decide, z.symm⟩]
      · rw [if_neg z, if_neg (fun q => z q.2.symm)]
    rw [w1, w2]
    rcases st02 with q | q
    · rw [q, if_neg (show ¬ (0 : Int) = 2 by decide)]
      have w3 : (if (0 : Int) ≠ 2 ∧ S 25 t = x then S 26 t else (0 : Int)) = if x = S 25 t then S 26 t else 0 := by
        by_cases z : x = S 25 t
        · rw [if_pos z, if_pos ⟨by decide, z.symm⟩]
        · rw [if_neg z, if_neg (fun q => z q.2.symm)]
      have w4 : (if (0 : Int) ≠ 2 ∧ S 24 t = x then S 26 t else (0 : Int)) = if x = S 24 t then S 26 t else 0 := by
        by_cases z : x = S 24 t
        · rw [if_pos z, if_pos ⟨by decide, z.symm⟩]
        · rw [if_neg z, if_neg (fun q => z q.2.symm)]
      rw [w3, w4]; omega
    · rw [q, if_pos rfl, if_neg (c := (2 : Int) ≠ 2 ∧ S 25 t = x) (fun q => q.1 rfl), if_neg (c := (2 : Int) ≠ 2 ∧ S 24 t = x) (fun q => q.1 rfl)]
      omega
  refine ⟨⟨by rw [c8, c20, r1], by rw [c10, c21, r2], by rw [c12, c22]; exact r3, by rw [c0, f1]; exact r4, by rw [c0, f14]; exact r5, by rw [c0, f15]; exact r6, by rw [c3, f7]; exact r7, by rw [c15, f16]; exact r8, ?_, fr_RelR c17 c151 c30 rR, fr_RelS c2 c06 c19 c23 rS⟩, ⟨by omega, by omega, by omega, by omega, by omega, by rw [c19]; exact g6, ?_⟩, ⟨fun i j i0 i9 j0 j9 => ?_, fun i i0 i9 => ?_, ?_⟩, ⟨fun i j i0 i9 j0 j9 => ?_, fun x y x0 x9 y0 y9 => ?_⟩, ?_, fr_IvG c22 (fun s q => by rw [← lv s]; exact q) hG, fun u u0 u1 => ?_, fun u u0 u1 => ?_, fr_IvS f1 c19 c23 hS, fun x x0 x9 => ?_, fr_IvU (by omega) c2 hU, ⟨by rw [c2]; exact hC.1, fun u w => ?_⟩, fr_IvW c31 hW, fr_IvR c30 f16 hR⟩
  · intro u u0 u1
    rw [c3'] at u1
    by_cases q : u = t
    · obtain ⟨a0, a1, a2, a3, a4, a5⟩ := rT u u0 u1
      rw [ht u 1 (by omega), ht u 2 (by omega), ht u 3 (by omega), ht u 4 (by omega), c24, c25, c26, c27, c28, c29]
      refine ⟨?_, a1, a2, a3, a4, ?_⟩
      · rw [q, h0, up_same]
      · rw [q, h5, up_same]
    · rw [ht u 0 (by omega), ht u 1 (by omega), ht u 2 (by omega), ht u 3 (by omega), ht u 4 (by omega), ht u 5 (by omega), c24, c25, c26, c27, c28, c29, up_ne q, up_ne q]
      exact rT u u0 u1
  · intro u
    rw [c24, c25, c26, c27, c28, c29]
    have := g7 u
    unfold up
    split
    · omega
    · exact this
  · have e1 := o1 i j i0 i9 j0 j9
    rw [get2 i j j0 j9]
    by_cases z : i = S 24 t ∧ j = S 25 t
    · rw [if_pos z, if_neg (by omega)]
      rw [z.1, z.2]
      omega
    · rw [if_neg z]
      split <;> omega
  · rw [get2 i i i0 i9, if_neg (by omega), if_neg (by omega), o2 i i0 i9]; rfl
  · rw [eN, f7, c20, tot_adF s9 b9, tot_adF b9 s9]
    rcases hz with ⟨q1, q2, q3⟩ | ⟨q1, q2, q3⟩
    · rw [if_neg (by omega)]; omega
    · rw [if_pos q1]; omega
  · have e1 := hF1 i j i0 i9 j0 j9
    rw [get i j j0 j9, get2 i j j0 j9]
    by_cases z : i = S 24 t ∧ j = S 25 t
    · rw [if_pos z, if_pos z, if_neg (by omega)]
      rw [z.1, z.2]
      omega
    · rw [if_neg z, if_neg z]
      split <;> omega
  · rw [get x y y0 y9, eF, hF2 x y x0 x9 y0 y9]
  · refine ⟨fun z z0 z8 hz k k0 k9 => ?_, fun k k0 k9 => ?_⟩
    · rw [lv z] at hz
      have hzb : z ≠ S 24 t := fun q => by rw [q, hb] at hz; exact absurd hz (by decide)
      have hzs : z ≠ S 25 t := fun q => by rw [q, hs] at hz; exact absurd hz (by decide)
      have := hD.1 z z0 z8 hz k k0 k9
      rw [get2 k z z0 (by omega), get2 z k k0 k9, if_neg (by omega), if_neg (by omega), if_neg (by omega), if_neg (by omega), this.1, this.2]
      exact ⟨rfl, rfl⟩
    · rw [get2 8 k k0 k9, if_neg (by omega), if_neg (by omega), hD.2 k k0 k9]; rfl
  · rw [f7] at u1
    rw [c24, c25, c26, c28, c29, f1, lv, lv]
    obtain ⟨a1, a2, a3, a4, a5⟩ := hT u u0 u1
    by_cases q : u = t
    · rw [q, up_same, up_same]
      exact ⟨T1, T2, T3, fun z => by omega, by omega⟩
    · rw [up_ne q, up_ne q]
      exact ⟨a1, a2, a3, a4, a5⟩
  · rw [f7] at u0
    rw [ht u 5 (by omega), c29, up_ne (by omega)]
    exact hP u u0 u1
  · rw [eB x, c20, c14, bl_adF s9 b9 ⟨x0, x9⟩, bl_adF b9 s9 ⟨x0, x9⟩, hB x x0 x9]
    rcases hz with ⟨q1, q2, q3⟩ | ⟨q1, q2, q3⟩
    · rw [if_neg (show ¬ st = 2 by omega), q2, q3]
      split <;> split <;> omega
    · rw [if_pos q1, q2, q3]
      split <;> split <;> omega
  · by_cases q : u = t ∧ (w = 0 ∨ w = 5)
    · rcases q.2 with w0 | w0
      · rw [q.1, w0, h0]; omega
      · rw [q.1, w0, h5]; omega
    · rw [ht u w q]
      exact hC.2 u w
end
