/-! ===== kept by the nights ===== -/
theorem stp_le9 (fz ow : Fn) (i j : Int) (j0 : 0 ≤ j) (j9 : j < 9) : stp fz ow (ix i j) ≤ ow (ix i j) := by
  unfold stp
  cases hq : fnd (Gb ow fz) with
  | none => exact Int.le_refl _
  | some l =>
    obtain ⟨a, g1, g2, g3, g4⟩ := fnd_is hq
    obtain ⟨r1, r2, r3, r4, r5⟩ := ring_facts g1 g2 g3
    have q := r4 i j ⟨j0, j9⟩
    show ntR ow fz l (ix i j) ≤ ow (ix i j)
    by_cases z : rgE l i j
    · have := q.1 z; omega
    · have := q.2 z; omega
theorem rgN_le9 (fz ow : Fn) (i j : Int) (j0 : 0 ≤ j) (j9 : j < 9) : ∀ n : Nat, rgN fz ow n (ix i j) ≤ ow (ix i j)
  | 0 => Int.le_refl _
  | n + 1 => Int.le_trans (stp_le9 fz (rgN fz ow n) i j j0 j9) (rgN_le9 fz ow i j j0 j9 n)
theorem rgN_tot (fz ow : Fn) (n : Nat) : tot (rgN fz ow n) ≤ tot ow := sI_mono (fun i _ _ => sI_mono (fun j j0 j9 => rgN_le9 fz ow i j j0 (by omega) n))
theorem ntL_bl {G : Int → Int → Bool} {a v z : Int} {ow : Fn} (hz : 0 ≤ z ∧ z < 9) : ∀ {l : List Int}, VP G a l → bl (ntL ow v l) z = bl ow z + (if z = l.getLastD 0 then v else 0) - if z = l.headD 0 then v else 0
  | [], h => h.elim
  | [x], h => by
    show bl ow z = bl ow z + (if z = x then v else 0) - if z = x then v else 0
    omega
  | x :: y :: t, hv => by
    have hx := VP_in hv x List.mem_cons_self
    have hy := VP_in hv y (List.mem_cons_of_mem _ List.mem_cons_self)
    have ih := ntL_bl (ow := ow) (v := v) hz hv.2.2.2.2
    have e1 : (x :: y :: t).getLastD 0 = (y :: t).getLastD 0 := rfl
    rw [ntL, bl_adF (by omega) (by omega) hz, ih, e1]
    show _ + (if z = (y :: t).getLastD 0 then v else 0) - (if z = y then v else 0) + (if z = x then -v else 0) - (if z = y then -v else 0) = _ + (if z = (y :: t).getLastD 0 then v else 0) - (if z = x then v else 0)
    generalize (if z = (y :: t).getLastD 0 then v else 0) = q
    split <;> split <;> omega
theorem rgN_bl {fz ow : Fn} {z : Int} (hz : 0 ≤ z ∧ z < 9) : ∀ n : Nat, bl (rgN fz ow n) z = bl ow z
  | 0 => rfl
  | n + 1 => by
    show bl (stp fz (rgN fz ow n)) z = _
    rw [← rgN_bl (fz := fz) (ow := ow) hz n]
    unfold stp
    cases hq : fnd (Gb (rgN fz ow n) fz) with
    | none => rfl
    | some l =>
      obtain ⟨a, g1, g2, g3, g4⟩ := fnd_is hq
      have hl := VP_a g1
      obtain ⟨x, t, rfl⟩ := VP_ne g1
      have hx := VP_in g1 x List.mem_cons_self
      show bl (ntR (rgN fz ow n) fz (x :: t)) z = _
      unfold ntR
      rw [ntL_bl hz g1, hl.1, bl_adF (by show 0 ≤ x ∧ x < 9; omega) (by omega) hz]
      split <;> split <;> omega
theorem pfF_bl {fz : Fn} {s z K : Int} {x : Fn × Fn × Int} (hs : 0 ≤ s ∧ s < 8) (hz : 0 ≤ z ∧ z < 9) (h : bl x.1 z - bl x.2.1 z = K) : bl (pfF fz s x).1 z - bl (pfF fz s x).2.1 z = K := by
  have hg := gdF_in x.1 fz s 7
  show bl (adF (adF x.1 _ s (-(mn _ _))) _ 8 (mn _ _)) z - bl (adF x.2.1 s 8 (mn _ _)) z = K
  generalize mn x.2.2 (x.1 (ix (gdF x.1 fz s 7) s) - fz (ix (gdF x.1 fz s 7) s)) = m
  rw [bl_adF (by omega) (by omega) hz, bl_adF (by omega) (by omega) hz, bl_adF (by omega) (by omega) hz]
  split <;> split <;> split <;> omega
theorem pfL_bl {fz : Fn} {s z K : Int} (hs : 0 ≤ s ∧ s < 8) (hz : 0 ≤ z ∧ z < 9) : ∀ (n : Nat) (x : Fn × Fn × Int), bl x.1 z - bl x.2.1 z = K → bl (pfL fz s n x).1 z - bl (pfL fz s n x).2.1 z = K
  | 0, x, h => h
  | n + 1, x, h => by
    unfold pfL
    split
    · exact pfL_bl hs hz n _ (pfF_bl hs hz h)
    · exact h
theorem fsA_bl {S : Mem} {z K : Int} {x : Fn × Fn} (hz : 0 ≤ z ∧ z < 9) (h : bl x.1 z - bl x.2 z = K) : bl (fsA S x 8).1 z - bl (fsA S x 8).2 z = K :=
  it_inv (P := fun y : Fn × Fn => bl y.1 z - bl y.2 z = K) h (fun s y s0 s8 hy => by
    show bl (fsF S s y).1 z - bl (fsF S s y).2 z = K
    unfold fsF
    split
    · exact pfL_bl (by omega) hz 8 (y.1, y.2, _) hy
    · exact hy)
theorem pyS_tot {fz : Fn} {s : Int} {x : Fn × Int} (hs : 0 ≤ s ∧ s < 8) : tot (pyS fz s x).1 = tot x.1 := by
  unfold pyS
  split
  · rename_i q
    have hm := mxF_in x.1 fz s 8
    show tot (adF (adF x.1 _ s _) _ 8 _) = _
    rw [tot_adF (by omega) (by omega), tot_adF (by omega) (by omega)]
    omega
  · rfl
theorem pyN_tot {fz : Fn} {s : Int} {x : Fn × Int} (hs : 0 ≤ s ∧ s < 8) : ∀ n : Nat, tot (pyN fz s x n).1 = tot x.1
  | 0 => rfl
  | n + 1 => by
    show tot (pyS fz s (pyN fz s x n)).1 = _
    rw [pyS_tot hs, pyN_tot hs n]
theorem fyA_tot {S : Mem} {ow : Fn} {n : Nat} (hn : n ≤ 8) : tot (fyA S ow n) = tot ow :=
  it_inv (P := fun y : Fn => tot y = tot ow) rfl (fun s y s0 s8 hy => by
    show tot (fyF S s y) = tot ow
    unfold fyF
    split
    · rw [pyE, pyN_tot (by omega)]; exact hy
    · exact hy)
section
variable {S T : Mem}
theorem Iv_rings (h : Iv S) {n : Nat} (eo : ∀ o : Nat, o < 32 → o ≠ 8 → o ≠ 15 → o ≠ 17 → o ≠ 18 → o ≠ 20 → o ≠ 30 → o ≠ 31 → T o = S o) (c8 : T 8 = T 20) (c20 : T 20 = rgN (S 21) (S 20) n) (e15 : T 15 1 = T 18 16) (rR : RelR T) (e18 : ∀ i : Int, i ≠ 0 → i ≠ 16 → T 18 i = S 18 i) (g16 : 0 ≤ T 18 16 ∧ T 18 16 ≤ 56) (hW : IvW T) (hR : IvR T) : Iv T := by
  have hk := rgN_ok (Iv_ok h) h.2.2.2.1.1 n
  obtain ⟨⟨r1, r2, r3, r4, r5, r6, r7, r8, rT, -, rS⟩, ⟨g1, g2, g3, g4, g5, g6, g7⟩, ⟨o1, o2, o3⟩, ⟨hF1, hF2⟩, hD, hG, hT, hP, hS, hB, hU, hC, -, -⟩ := h
  have c0 := eo 0 (by decide) (by decide) (by decide) (by decide) (by decide) (by decide) (by decide) (by decide)
  have c2 := eo 2 (by decide) (by decide) (by decide) (by decide) (by decide) (by decide) (by decide) (by decide)
  have c3 := eo 3 (by decide) (by decide) (by decide) (by decide) (by decide) (by decide) (by decide) (by decide)
  have c5 := eo 5 (by decide) (by decide) (by decide) (by decide) (by decide) (by decide) (by decide) (by decide)
  have c10 := eo 10 (by decide) (by decide) (by decide) (by decide) (by decide) (by decide) (by decide) (by decide)
  have c12 := eo 12 (by decide) (by decide) (by decide) (by decide) (by decide) (by decide) (by decide) (by decide)
  have c14 := eo 14 (by decide) (by decide) (by decide) (by decide) (by decide) (by decide) (by decide) (by decide)
  have c19 := eo 19 (by decide) (by decide) (by decide) (by decide) (by decide) (by decide) (by decide) (by decide)
  have c21 := eo 21 (by decide) (by decide) (by decide) (by decide) (by decide) (by decide) (by decide) (by decide)
  have c22 := eo 22 (by decide) (by decide) (by decide) (by decide) (by decide) (by decide) (by decide) (by decide)
  have c23 := eo 23 (by decide) (by decide) (by decide) (by decide) (by decide) (by decide) (by decide) (by decide)
  have c24 := eo 24 (by decide) (by decide) (by decide) (by decide) (by decide) (by decide) (by decide) (by decide)
  have c25 := eo 25 (by decide) (by decide) (by decide) (by decide) (by decide) (by decide) (by decide) (by decide)
  have c26 := eo 26 (by decide) (by decide) (by decide) (by decide) (by decide) (by decide) (by decide) (by decide)
  have c27 := eo 27 (by decide) (by decide) (by decide) (by decide) (by decide) (by decide) (by decide) (by decide)
  have c28 := eo 28 (by decide) (by decide) (by decide) (by decide) (by decide) (by decide) (by decide) (by decide)
  have c29 := eo 29 (by decide) (by decide) (by decide) (by decide) (by decide) (by decide) (by decide) (by decide)
  have f1 := e18 1 (by decide) (by decide)
  have f7 := e18 7 (by decide) (by decide)
  have f14 := e18 14 (by decide) (by decide)
  have f15 := e18 15 (by decide) (by decide)
  have c3' : T 3 1 = S 3 1 := by rw [c3]
  have c06 : T 0 6 = S 0 6 := by rw [c0]
  have lv : ∀ s : Int, livR T s = livR S s := fr_liv f1 c19
  have ht := rgN_tot (S 21) (S 20) n
  have z0 : ∀ i j : Int, 0 ≤ i → i < 9 → 0 ≤ j → j < 9 → S 20 (ix i j) = 0 → rgN (S 21) (S 20) n (ix i j) = 0 := fun i j i0 i9 j0 j9 q => by
    have a := rgN_le9 (S 21) (S 20) i j j0 j9 n
    have b := hk.1.1.1 i j i0 i9 j0 j9
    omega
  refine ⟨⟨c8, by rw [c10, c21]; exact r2, by rw [c12, c22]; exact r3, by rw [c0, f1]; exact r4, by rw [c0, f14]; exact r5, by rw [c0, f15]; exact r6, by rw [c3, f7]; exact r7, e15, fr_RelT c5 c3' c24 c25 c26 c27 c28 c29 rT, rR, fr_RelS c2 c06 c19 c23 rS⟩, ⟨by omega, by omega, by omega, by omega, g16, by rw [c19]; exact g6, by rw [c24, c25, c26, c27, c28, c29]; exact g7⟩, ⟨by rw [c20]; exact hk.1.1.1, by rw [c20]; exact hk.1.2, by rw [c20, c28, f7]; omega⟩, ⟨by rw [c20, c21]; exact hk.2, by rw [c21, c28, c24, c25, c29, f7]; exact hF2⟩, ⟨fun z z1 z8 hz k k0 k9 => ?_, fun k k0 k9 => ?_⟩, fr_IvG c22 (fun s q => by rw [← lv s]; exact q) hG, fr_IvT (by omega) f7 (fun s q => by rw [lv s]; exact q) c24 c25 c26 c28 c29 hT, fr_IvP c5 f7 c29 hP, fr_IvS f1 c19 c23 hS, fun x x0 x9 => ?_, fr_IvU (by omega) c2 hU, fr_IvC c2 c5 hC, hW, hR⟩
  · rw [lv z] at hz
    have := hD.1 z z1 z8 hz k k0 k9
    rw [c20]
    exact ⟨z0 k z k0 k9 z1 (by omega) this.1, z0 z k z1 (by omega) k0 k9 this.2⟩
  · rw [c20]
    exact z0 8 k (by omega) (by omega) k0 k9 (hD.2 k k0 k9)
  · rw [c20, c14, c28, c24, c25, c26, f7, rgN_bl ⟨x0, x9⟩]
    exact hB x x0 x9
theorem Iv_fees (h : Iv S) (ht : S 18 14 < 20000) (eo : ∀ o : Nat, o < 32 → o ≠ 0 → o ≠ 8 → o ≠ 14 → o ≠ 18 → o ≠ 20 → T o = S o) (c8 : T 8 = (fsA S (S 8, S 14) 8).1) (c14 : T 14 = (fsA S (S 8, S 14) 8).2) (c20 : T 20 = fyA S (S 20) (S 18 1).toNat) (e07 : T 0 7 = S 0 7 + 1) (e0 : ∀ i : Int, i ≠ 7 → T 0 i = S 0 i) (e14 : T 18 14 = S 18 14 + 1) (e18 : ∀ i : Int, i ≠ 0 → i ≠ 14 → T 18 i = S 18 i) : Iv T := by
  have hf := fees_is (gu := S 14) h.1 h.2.1 (Iv_fI h)
  have hbl := fun z (hz : 0 ≤ z ∧ z < 9) => fsA_bl (S := S) (z := z) (x := (S 8, S 14)) (K := bl (S 8) z - bl (S 14) z) hz rfl
  obtain ⟨⟨r1, r2, r3, r4, r5, r6, r7, r8, rT, rR, rS⟩, ⟨g1, g2, g3, g4, g5, g6, g7⟩, ⟨o1, o2, o3⟩, ⟨hF1, hF2⟩, hD, hG, hT, hP, hS, hB, hU, hC, hW, hR⟩ := h
  have c2 := eo 2 (by decide) (by decide) (by decide) (by decide) (by decide) (by decide)
  have c3 := eo 3 (by decide) (by decide) (by decide) (by decide) (by decide) (by decide)
  have c5 := eo 5 (by decide) (by decide) (by decide) (by decide) (by decide) (by decide)
  have c10 := eo 10 (by decide) (by decide) (by decide) (by decide) (by decide) (by decide)
  have c12 := eo 12 (by decide) (by decide) (by decide) (by decide) (by decide) (by decide)
  have c15 := eo 15 (by decide) (by decide) (by decide) (by decide) (by decide) (by decide)
  have c17 := eo 17 (by decide) (by decide) (by decide) (by decide) (by decide) (by decide)
  have c19 := eo 19 (by decide) (by decide) (by decide) (by decide) (by decide) (by decide)
  have c21 := eo 21 (by decide) (by decide) (by decide) (by decide) (by decide) (by decide)
  have c22 := eo 22 (by decide) (by decide) (by decide) (by decide) (by decide) (by decide)
  have c23 := eo 23 (by decide) (by decide) (by decide) (by decide) (by decide) (by decide)
  have c24 := eo 24 (by decide) (by decide) (by decide) (by decide) (by decide) (by decide)
  have c25 := eo 25 (by decide) (by decide) (by decide) (by decide) (by decide) (by decide)
  have c26 := eo 26 (by decide) (by decide) (by decide) (by decide) (by decide) (by decide)
  have c27 := eo 27 (by decide) (by decide) (by decide) (by decide) (by decide) (by decide)
  have c28 := eo 28 (by decide) (by decide) (by decide) (by decide) (by decide) (by decide)
  have c29 := eo 29 (by decide) (by decide) (by decide) (by decide) (by decide) (by decide)
  have c30 := eo 30 (by decide) (by decide) (by decide) (by decide) (by decide) (by decide)
  have c31 := eo 31 (by decide) (by decide) (by decide) (by decide) (by decide) (by decide)
  have f1 := e18 1 (by decide) (by decide)
  have f7 := e18 7 (by decide) (by decide)
  have f15 := e18 15 (by decide) (by decide)
  have f16 := e18 16 (by decide) (by decide)
  have c3' : T 3 1 = S 3 1 := by rw [c3]
  have c151 : T 15 1 = S 15 1 := by rw [c15]
  have c06 : T 0 6 = S 0 6 := e0 6 (by decide)
  have lv : ∀ s : Int, livR T s = livR S s := fr_liv f1 c19
  have e820 : T 8 = T 20 := by rw [c8, c20, ← hf.1, r1]
  obtain ⟨k1, k2, k3⟩ := hf.2
  have kt := fyA_tot (S := S) (ow := S 20) (n := (S 18 1).toNat) (by omega)
  refine ⟨⟨e820, by rw [c10, c21]; exact r2, by rw [c12, c22]; exact r3, by rw [c06, f1]; exact r4, by omega, by rw [e0 8 (by decide), f15]; exact r6, by rw [c3, f7]; exact r7, by rw [c15, f16]; exact r8, fr_RelT c5 c3' c24 c25 c26 c27 c28 c29 rT, fr_RelR c17 c151 c30 rR, fr_RelS c2 c06 c19 c23 rS⟩, ⟨by omega, by omega, by omega, by omega, by omega, by rw [c19]; exact g6, by rw [c24, c25, c26, c27, c28, c29]; exact g7⟩, ⟨by rw [c20]; exact k1.1.1, by rw [c20]; exact k1.2, by rw [c20, c28, f7, kt]; exact o3⟩, ⟨by rw [c20, c21]; exact k2, by rw [c21, c28, c24, c25, c29, f7]; exact hF2⟩, ⟨fun z z1 z8 hz k k0 k9 => ?_, by rw [c20]; exact k3.2⟩, fr_IvG c22 (fun s q => by rw [← lv s]; exact q) hG, fr_IvT (by omega) f7 (fun s q => by rw [lv s]; exact q) c24 c25 c26 c28 c29 hT, fr_IvP c5 f7 c29 hP, fr_IvS f1 c19 c23 hS, fun x x0 x9 => ?_, fr_IvU (by omega) c2 hU, fr_IvC c2 c5 hC, fr_IvW c31 hW, fr_IvR c30 f16 hR⟩
  · rw [lv z] at hz
    rw [c20]
    exact k3.1 z z1 z8 hz k k0 k9
  · have e1 := hbl x ⟨x0, x9⟩
    have e2 := hB x x0 x9
    rw [← c8, ← c14, e820, r1] at e1
    rw [c28, c24, c25, c26, f7]
    omega
end
theorem nrR_rows {T : Mem} {n : Nat} {T1 : Mem} (h : nrR T n T1) (hok : OkD (T 20)) (hf : Fz (T 20) (T 21)) : IvR T1 := by
  have hm := nrR_mem h
  obtain ⟨h31, h30, -, hT1, -, hrow⟩ := h
  have e30 : T1 30 = h30 := by rw [hT1]; rfl
  intro r w r0 r1 w0 w7
  rw [hm.2.2.1] at r1
  rw [e30]
  obtain ⟨l, q1, q2⟩ := hrow r.toNat (by omega)
  rw [show ((r.toNat : Nat) : Int) = r by omega] at q2
  obtain ⟨a1, a2, a3, a4⟩ := q2
  obtain ⟨a, g1, g2, g3, g4⟩ := fnd_is q1
  obtain ⟨f1, f2, ⟨i, j, f3, f3'⟩, f4, f5⟩ := ring_facts g1 g2 g3
  have hk := rgN_ok hok hf r.toNat
  by_cases w0' : w = 0
  · rw [w0', a1]; omega
  · by_cases w1 : w = 1
    · rw [w1, a2]
      have b := f1 i j f3
      have c := hk.1.1.ent (i := i) (j := j) (by omega) (by omega)
      have d := hk.2 i j (by omega) (by omega) (by omega) (by omega)
      unfold opF at f3'
      omega
    · by_cases w2 : w - 2 < l.length
      · have b := pl_in (f := fun k => h30 (rix r (2 + k))) (n := l.length) (k := w - 2) (by omega) w2
        rw [a3] at b
        have c := VP_in g1 _ b
        have d : h30 (rix r (2 + (w - 2))) = h30 (rix r w) := by rw [show (2 : Int) + (w - 2) = w by omega]
        have c' : 0 ≤ h30 (rix r (2 + (w - 2))) ∧ h30 (rix r (2 + (w - 2))) < 8 := c.2
        omega
      · have b := a4 (w - 2) (by omega) (by omega)
        rw [show (2 : Int) + (w - 2) = w by omega] at b
        rw [b]; omega
theorem mgC (S T : Mem) {o : Nat} (h : o < 18) : mg S T o = S o := if_pos h
theorem mgR (S T : Mem) {o : Nat} (h : ¬ o < 18) : mg S T o = T o := if_neg h
theorem fsA_mg (S T : Mem) (x : Fn × Fn) (n : Nat) : fsA (mg S T) x n = fsA S x n := rfl
theorem fyA_mg (S T : Mem) (x : Fn) (n : Nat) : fyA (mg S T) x n = fyA T x n := rfl
theorem Iv_night1 {S S' T T' : Mem} (h : Iv (mg S T)) (hc : ngCR S S') (hr : ngR T T') (ht : T 18 14 < 20000) : Iv (mg S' T') := by
  obtain ⟨S1, h1, rfl⟩ := hc
  obtain ⟨n, T1, h2, hn, rfl⟩ := hr
  have e8 : S 8 = T 20 := h.1.1
  have e10 : S 10 = T 21 := h.1.2.1
  have hri := rings_is h1 h2 hn e8 e10
  have hm := nrR_mem h2
  have hgd : nGdC S := Iv_nGdC (S := mg S T) h
  have hIR : IvR T1 := nrR_rows h2 (Iv_ok (S := mg S T) h) h.2.2.2.1.1
  have hfr := (raP_gd h1 hgd).2
  have hng := hm.2.2.2.2.2.2 (h.2.1 : RgR T)
  have hV : Iv (mg S1 T1) := by
    refine Iv_rings h (n := n) (fun o o32 a8 a15 a17 a18 a20 a30 a31 => ?_) hri.1 hm.1 hri.2.1 hri.2.2 (fun i i0 i16 => hm.2.2.2.1 i i16) hng.2.2.2.2.1 hm.2.2.2.2.2.1 hIR
    by_cases q : o < 18
    · rw [mgC _ _ q, mgC _ _ q]; exact hfr o a8 a15 a17
    · rw [mgR _ _ q, mgR _ _ q]; exact hm.2.2.2.2.1 o a18 a20 a30 a31
  have f14 : T1 18 14 = T 18 14 := hm.2.2.2.1 14 (by decide)
  have f1 : T1 18 1 = T 18 1 := hm.2.2.2.1 1 (by decide)
  refine Iv_fees hV (by show T1 18 14 < 20000; omega) (fun o o32 a0 a8 a14 a18 a20 => ?_) ?_ ?_ ?_ ?_ (fun i i7 => ?_) ?_ (fun i i0 i14 => ?_)
  · by_cases q : o < 18
    · rw [mgC _ _ q, mgC _ _ q, mset_o a0]
      unfold m2
      rw [mput_ne a14, mput_ne a8]
    · rw [mgR _ _ q, mgR _ _ q, mset_o a18, mput_ne a20]
  · rw [mgC _ _ (by decide), mset_o (by decide), fsA_mg, mgC _ _ (by decide), mgC _ _ (by decide)]
    rfl
  · rw [mgC _ _ (by decide), mset_o (by decide), fsA_mg, mgC _ _ (by decide), mgC _ _ (by decide)]
    rfl
  · rw [mgR _ _ (by decide), mset_o (by decide), mput_same, fyA_mg, mgR _ _ (by decide), mgR _ _ (by decide), f1]
  · rw [mgC _ _ (by decide), mset_hit, mgC _ _ (by decide)]
  · rw [mgC _ _ (by decide), mset_i i7, mgC _ _ (by decide)]
    rfl
  · rw [mgR _ _ (by decide), mset_hit, mgR _ _ (by decide), f14]
  · rw [mgR _ _ (by decide), mset_i i14, mgR _ _ (by decide)]
    rfl
theorem Iv_nights {S T : Mem} (h : Iv (mg S T)) : ∀ {n : Nat} {S' T' : Mem}, ngC n S S' → ngN n T T' → T 18 14 + n ≤ 20000 → Iv (mg S' T') ∧ T' 18 14 = T 18 14 + n
  | 0, S', T', h1, h2, ht => by
    cases (h1 : S' = S)
    cases (h2 : T' = T)
    exact ⟨h, by omega⟩
  | n + 1, S', T', ⟨S1, h1, h3⟩, ⟨T1, h2, h4⟩, ht => by
    have e := Iv_nights h h1 h2 (by omega)
    have e2 := Iv_night1 e.1 h3 h4 (by omega)
    refine ⟨e2, ?_⟩
    obtain ⟨m, T2, -, -, rfl⟩ := h4
    rw [mset_hit, e.2]; omega
theorem ngC_fr {S : Mem} (hg : nGdC S) : ∀ {n : Nat} {S' : Mem}, ngC n S S' → S 0 7 + n ≤ 20000 → ∀ o : Nat, 18 ≤ o → S' o = S o
  | 0, S', h, ht, o, ho => by
    cases (h : S' = S)
    rfl
  | n + 1, S', ⟨S1, h1, S2, h2, h3⟩, ht, o, ho => by
    have hgd := ngC_gd h1 hg (by omega)
    have e := ngC_fr hg h1 (by omega) o ho
    have e2 := (raP_gd h2 hgd.1).2 o (by omega) (by omega) (by omega)
    rw [h3, mset_o (by omega)]
    unfold m2
    rw [mput_ne (by omega), mput_ne (by omega), e2, e]
theorem ngN_fr {T : Mem} : ∀ {n : Nat} {T' : Mem}, ngN n T T' → ∀ o : Nat, o ≠ 18 → o ≠ 20 → o ≠ 30 → o ≠ 31 → T' o = T o
  | 0, T', h, o, _, _, _, _ => by
    cases (h : T' = T)
    rfl
  | n + 1, T', ⟨T1, h1, m, T2, h2, h3, h4⟩, o, a, b, c, d => by
    have e := ngN_fr h1 o a b c d
    have hm := nrR_mem h2
    rw [h4, mset_o a, mput_ne b, hm.2.2.2.2.1 o a b c d, e]
