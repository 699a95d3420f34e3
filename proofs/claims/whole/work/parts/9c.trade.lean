/-! ===== kept by trade ===== -/
theorem sum_snoc {f g : Fn} {n : Int} (h0 : 0 ≤ n) (h : ∀ t : Int, 0 ≤ t → t < n → g t = f t) : sI g (n + 1).toNat = sI f n.toNat + g n := by
  rw [show (n + 1).toNat = n.toNat + 1 by omega, sI, sI_cong (f := g) (g := f) (fun k k0 k1 => h k k0 (by omega)), show ((n.toNat : Nat) : Int) = n by omega]
section
variable {S T : Mem}
theorem Iv_trade (h : Iv S) {b s a : Int} (hb : livR S b = true) (hs : livR S s = true) (hn : b ≠ s) (ha : 1 ≤ a ∧ a ≤ 1000) (h7 : S 18 7 < 100) (eo : ∀ o : Nat, o < 32 → o ≠ 3 → o ≠ 5 → o ≠ 8 → o ≠ 18 → o ≠ 20 → o ≠ 24 → o ≠ 25 → o ≠ 26 → o ≠ 27 → o ≠ 28 → T o = S o)
    (e31 : T 3 1 = S 3 1 + 1) (ht : ∀ t w : Int, t ≠ S 18 7 → trd T t w = trd S t w) (hn0 : trd T (S 18 7) 0 = 0) (hn1 : trd T (S 18 7) 1 = b) (hn2 : trd T (S 18 7) 2 = s) (hn3 : trd T (S 18 7) 3 = a) (hn4 : trd T (S 18 7) 4 = S 18 14) (hn5 : trd T (S 18 7) 5 = trd S (S 18 7) 5)
    (c8 : T 8 = adF (S 8) b s a) (c20 : T 20 = adF (S 20) b s a) (c24 : T 24 = up (S 24) (S 18 7) b) (c25 : T 25 = up (S 25) (S 18 7) s) (c26 : T 26 = up (S 26) (S 18 7) a) (c27 : T 27 = up (S 27) (S 18 7) (S 18 14)) (c28 : T 28 = up (S 28) (S 18 7) 0) (e7 : T 18 7 = S 18 7 + 1) (e18 : ∀ i : Int, i ≠ 0 → i ≠ 7 → T 18 i = S 18 i) : Iv T := by
  have hib := livR_in hb h.2.1
  have his := livR_in hs h.2.1
  obtain ⟨⟨r1, r2, r3, r4, r5, r6, r7, r8, rT, rR, rS⟩, ⟨g1, g2, g3, g4, g5, g6, g7⟩, ⟨o1, o2, o3⟩, ⟨hF1, hF2⟩, hD, hG, hT, hP, hS, hB, hU, hC, hW, hR⟩ := h
  have c0 := eo 0 (by decide) (by decide) (by decide) (by decide) (by decide) (by decide) (by decide) (by decide) (by decide) (by decide) (by decide)
  have c2 := eo 2 (by decide) (by decide) (by decide) (by decide) (by decide) (by decide) (by decide) (by decide) (by decide) (by decide) (by decide)
  have c10 := eo 10 (by decide) (by decide) (by decide) (by decide) (by decide) (by decide) (by decide) (by decide) (by decide) (by decide) (by decide)
  have c12 := eo 12 (by decide) (by decide) (by decide) (by decide) (by decide) (by decide) (by decide) (by decide) (by decide) (by decide) (by decide)
  have c14 := eo 14 (by decide) (by decide) (by decide) (by decide) (by decide) (by decide) (by decide) (by decide) (by decide) (by decide) (by decide)
  have c15 := eo 15 (by decide) (by decide) (by decide) (by decide) (by decide) (by decide) (by decide) (by decide) (by decide) (by decide) (by decide)
  have c17 := eo 17 (by decide) (by decide) (by decide) (by decide) (by decide) (by decide) (by decide) (by decide) (by decide) (by decide) (by decide)
  have c19 := eo 19 (by decide) (by decide) (by decide) (by decide) (by decide) (by decide) (by decide) (by decide) (by decide) (by decide) (by decide)
  have c21 := eo 21 (by decide) (by decide) (by decide) (by decide) (by decide) (by decide) (by decide) (by decide) (by decide) (by decide) (by decide)
  have c22 := eo 22 (by decide) (by decide) (by decide) (by decide) (by decide) (by decide) (by decide) (by decide) (by decide) (by decide) (by decide)
  have c23 := eo 23 (by decide) (by decide) (by decide) (by decide) (by decide) (by decide) (by decide) (by decide) (by decide) (by decide) (by decide)
  have c29 := eo 29 (by decide) (by decide) (by decide) (by decide) (by decide) (by decide) (by decide) (by decide) (by decide) (by decide) (by decide)
  have c30 := eo 30 (by decide) (by decide) (by decide) (by decide) (by decide) (by decide) (by decide) (by decide) (by decide) (by decide) (by decide)
  have c31 := eo 31 (by decide) (by decide) (by decide) (by decide) (by decide) (by decide) (by decide) (by decide) (by decide) (by decide) (by decide)
  have f1 := e18 1 (by decide) (by decide)
  have f14 := e18 14 (by decide) (by decide)
  have f15 := e18 15 (by decide) (by decide)
  have f16 := e18 16 (by decide) (by decide)
  have c151 : T 15 1 = S 15 1 := by rw [c15]
  have c06 : T 0 6 = S 0 6 := by rw [c0]
  have lv : ∀ s : Int, livR T s = livR S s := fr_liv f1 c19
  have s9 : 0 ≤ s ∧ s < 9 := by omega
  have b9 : 0 ≤ b ∧ b < 9 := by omega
  have get : ∀ x y : Int, 0 ≤ y → y < 9 → T 20 (ix x y) = S 20 (ix x y) + if x = b ∧ y = s then a else 0 := fun x y y0 y9 => by
    rw [c20]; exact adF_get s9 ⟨y0, y9⟩
  have p0 := hP (S 18 7) (Int.le_refl _) h7
  have un : ∀ (f : Fn) (v t : Int), 0 ≤ t → t < S 18 7 → up f (S 18 7) v t = f t := fun f v t t0 t1 => up_ne (by omega)
  have eN : nvd (T 28) (T 18 7) = nvd (S 28) (S 18 7) + 1 := by
    rw [c28, e7]
    unfold nvd
    rw [sum_snoc (f := fun t => if S 28 t = 2 then (0 : Int) else 1) g2.1 (fun t t0 t1 => by show (if up _ _ _ t = 2 then (0 : Int) else 1) = if S 28 t = 2 then 0 else 1; rw [un _ _ t t0 t1])]
    show _ + (if up (S 28) (S 18 7) 0 (S 18 7) = 2 then (0 : Int) else 1) = _
    rw [up_same]; rfl
  have eF : ∀ x y : Int, fzs (T 28) (T 24) (T 25) (T 29) (T 18 7) x y = fzs (S 28) (S 24) (S 25) (S 29) (S 18 7) x y := by
    intro x y
    rw [c28, c24, c25, c29, e7]
    unfold fzs
    rw [sum_snoc (f := fun t => if S 28 t = 1 ∧ S 24 t = x ∧ S 25 t = y then S 29 t else (0 : Int)) g2.1 (fun t t0 t1 => by
      show (if up _ _ _ t = 1 ∧ up _ _ _ t = x ∧ up _ _ _ t = y then S 29 t else (0 : Int)) = if S 28 t = 1 ∧ S 24 t = x ∧ S 25 t = y then S 29 t else 0
      rw [un _ _ t t0 t1, un _ _ t t0 t1, un _ _ t t0 t1])]
    show _ + (if up (S 28) (S 18 7) 0 (S 18 7) = 1 ∧ _ ∧ _ then _ else (0 : Int)) = _
    rw [up_same, if_neg (fun q => absurd q.1 (by decide)), Int.add_zero]
  have eB : ∀ x : Int, blT (T 28) (T 24) (T 25) (T 26) (T 18 7) x = blT (S 28) (S 24) (S 25) (S 26) (S 18 7) x + ((if x = s then a else 0) - if x = b then a else 0) := by
    intro x
    rw [c28, c24, c25, c26, e7]
    unfold blT
    rw [sum_snoc (f := fun t => (if S 28 t ≠ 2 ∧ S 25 t = x then S 26 t else (0 : Int)) - (if S 28 t ≠ 2 ∧ S 24 t = x then S 26 t else 0)) g2.1 (fun t t0 t1 => by
      show (if up _ _ _ t ≠ 2 ∧ up _ _ _ t = x then up _ _ _ t else (0 : Int)) - (if up _ _ _ t ≠ 2 ∧ up _ _ _ t = x then up _ _ _ t else (0 : Int)) = _
      rw [un _ _ t t0 t1, un _ _ t t0 t1, un _ _ t t0 t1, un _ _ t t0 t1])]
    show _ + ((if up (S 28) (S 18 7) 0 (S 18 7) ≠ 2 ∧ up (S 25) (S 18 7) s (S 18 7) = x then up (S 26) (S 18 7) a (S 18 7) else (0 : Int)) - (if up (S 28) (S 18 7) 0 (S 18 7) ≠ 2 ∧ up (S 24) (S 18 7) b (S 18 7) = x then up (S 26) (S 18 7) a (S 18 7) else (0 : Int))) = _
    rw [up_same, up_same, up_same, up_same]
    congr 1
    by_cases q1 : x = s <;> by_cases q2 : x = b
    · omega
    · rw [if_pos ⟨by decide, q1.symm⟩, if_neg (fun q => q2 q.2.symm), if_pos q1, if_neg q2]
    · rw [if_neg (fun q => q1 q.2.symm), if_pos ⟨by decide, q2.symm⟩, if_neg q1, if_pos q2]
    · rw [if_neg (fun q => q1 q.2.symm), if_neg (fun q => q2 q.2.symm), if_neg q1, if_neg q2]
  refine ⟨⟨by rw [c8, c20, r1], by rw [c10, c21]; exact r2, by rw [c12, c22]; exact r3, by rw [c0, f1]; exact r4, by rw [c0, f14]; exact r5, by rw [c0, f15]; exact r6, by omega, by rw [c15, f16]; exact r8, ?_, fr_RelR c17 c151 c30 rR, fr_RelS c2 c06 c19 c23 rS⟩, ⟨by omega, by omega, by omega, by omega, by omega, by rw [c19]; exact g6, ?_⟩, ⟨fun i j i0 i9 j0 j9 => ?_, fun i i0 i9 => ?_, ?_⟩, ⟨fun i j i0 i9 j0 j9 => ?_, fun x y x0 x9 y0 y9 => ?_⟩, ?_, fr_IvG c22 (fun s q => by rw [← lv s]; exact q) hG, fun t t0 t1 => ?_, fun t t0 t1 => ?_, fr_IvS f1 c19 c23 hS, fun x x0 x9 => ?_, fr_IvU (by omega) c2 hU, ⟨by rw [c2]; exact hC.1, fun t w => ?_⟩, fr_IvW c31 hW, fr_IvR c30 f16 hR⟩
  · intro t t0 t1
    by_cases q : t = S 18 7
    · rw [q, hn0, hn1, hn2, hn3, hn4, hn5, c24, c25, c26, c27, c28, c29, up_same, up_same, up_same, up_same, up_same, p0.1, p0.2]
      exact ⟨rfl, rfl, rfl, rfl, rfl, rfl⟩
    · rw [ht t 0 q, ht t 1 q, ht t 2 q, ht t 3 q, ht t 4 q, ht t 5 q, c24, c25, c26, c27, c28, c29, up_ne q, up_ne q, up_ne q, up_ne q, up_ne q]
      exact rT t t0 (by omega)
  · intro t
    rw [c24, c25, c26, c27, c28, c29]
    have := g7 t
    unfold up
    split
    · omega
    · exact this
  · have := o1 i j i0 i9 j0 j9
    rw [get i j j0 j9]
    split <;> omega
  · rw [get i i i0 i9, if_neg (by omega), o2 i i0 i9]; rfl
  · rw [eN, e7, c20, tot_adF b9 s9]
    omega
  · have := hF1 i j i0 i9 j0 j9
    rw [get i j j0 j9, c21]
    split <;> omega
  · rw [c21, eF]
    exact hF2 x y x0 x9 y0 y9
  · refine ⟨fun z z0 z8 hz k k0 k9 => ?_, fun k k0 k9 => ?_⟩
    · rw [lv z] at hz
      have hzb : z ≠ b := fun q => by rw [q, hb] at hz; exact absurd hz (by decide)
      have hzs : z ≠ s := fun q => by rw [q, hs] at hz; exact absurd hz (by decide)
      have := hD.1 z z0 z8 hz k k0 k9
      rw [get k z z0 (by omega), get z k k0 k9, if_neg (by omega), if_neg (by omega), this.1, this.2]
      exact ⟨rfl, rfl⟩
    · rw [get 8 k k0 k9, if_neg (by omega), hD.2 k k0 k9]; rfl
  · rw [e7] at t1
    rw [c24, c25, c26, c28, c29, f1]
    by_cases q : t = S 18 7
    · rw [q, up_same, up_same, up_same, up_same, p0.2]
      exact ⟨by omega, by omega, hn, fun z => absurd z (by decide), by omega⟩
    · rw [up_ne q, up_ne q, up_ne q, up_ne q, lv, lv]
      exact hT t t0 (by omega)
  · rw [e7] at t0
    rw [ht t 5 (by omega), c29]
    exact hP t (by omega) t1
  · rw [eB x, c20, c14, bl_adF b9 s9 ⟨x0, x9⟩, hB x x0 x9]
    omega
  · by_cases q : t = S 18 7
    · rw [q]
      have hc5 := hC.2 (S 18 7) 5
      by_cases w0 : w = 0
      · rw [w0, hn0]; omega
      · by_cases w1 : w = 1
        · rw [w1, hn1]; omega
        · by_cases w2 : w = 2
          · rw [w2, hn2]; omega
          · by_cases w3 : w = 3
            · rw [w3, hn3]; omega
            · by_cases w4 : w = 4
              · rw [w4, hn4]; omega
              · by_cases w5 : w = 5
                · rw [w5, hn5]; exact hc5
                · unfold trd tg
                  rw [if_neg (by omega)]; omega
    · rw [ht t w q]
      exact hC.2 t w
end
