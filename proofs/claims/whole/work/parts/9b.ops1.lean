/-! ===== kept by join, fee, guarantee, revoke ===== -/
section
variable {S T : Mem}
theorem Iv_join (h : Iv S) (hj : S 18 1 < 8) (eo : ∀ o : Nat, o < 32 → o ≠ 0 → o ≠ 18 → o ≠ 19 → T o = S o) (e06 : T 0 6 = S 0 6 + 1) (e0 : ∀ i : Int, i ≠ 6 → T 0 i = S 0 i) (e1 : T 18 1 = S 18 1 + 1) (e18 : ∀ i : Int, i ≠ 0 → i ≠ 1 → T 18 i = S 18 i) (c19 : T 19 = up (S 19) (S 18 1) 1) : Iv T := by
  obtain ⟨⟨r1, r2, r3, r4, r5, r6, r7, r8, rT, rR, rS⟩, ⟨g1, g2, g3, g4, g5, g6, g7⟩, hO, hF, hD, hG, hT, hP, hS, hB, hU, hC, hW, hR⟩ := h
  have c2 := eo 2 (by decide) (by decide) (by decide) (by decide)
  have c3 := eo 3 (by decide) (by decide) (by decide) (by decide)
  have c5 := eo 5 (by decide) (by decide) (by decide) (by decide)
  have c8 := eo 8 (by decide) (by decide) (by decide) (by decide)
  have c10 := eo 10 (by decide) (by decide) (by decide) (by decide)
  have c12 := eo 12 (by decide) (by decide) (by decide) (by decide)
  have c14 := eo 14 (by decide) (by decide) (by decide) (by decide)
  have c15 := eo 15 (by decide) (by decide) (by decide) (by decide)
  have c17 := eo 17 (by decide) (by decide) (by decide) (by decide)
  have c20 := eo 20 (by decide) (by decide) (by decide) (by decide)
  have c21 := eo 21 (by decide) (by decide) (by decide) (by decide)
  have c22 := eo 22 (by decide) (by decide) (by decide) (by decide)
  have c23 := eo 23 (by decide) (by decide) (by decide) (by decide)
  have c24 := eo 24 (by decide) (by decide) (by decide) (by decide)
  have c25 := eo 25 (by decide) (by decide) (by decide) (by decide)
  have c26 := eo 26 (by decide) (by decide) (by decide) (by decide)
  have c27 := eo 27 (by decide) (by decide) (by decide) (by decide)
  have c28 := eo 28 (by decide) (by decide) (by decide) (by decide)
  have c29 := eo 29 (by decide) (by decide) (by decide) (by decide)
  have c30 := eo 30 (by decide) (by decide) (by decide) (by decide)
  have c31 := eo 31 (by decide) (by decide) (by decide) (by decide)
  have f7 := e18 7 (by decide) (by decide)
  have f14 := e18 14 (by decide) (by decide)
  have f15 := e18 15 (by decide) (by decide)
  have f16 := e18 16 (by decide) (by decide)
  have c3' : T 3 1 = S 3 1 := by rw [c3]
  have c151 : T 15 1 = S 15 1 := by rw [c15]
  have lu : ∀ s : Int, livR S s = true → livR T s = true := fun s q => by
    unfold livR at *
    simp only [Bool.and_eq_true, decide_eq_true_eq] at *
    rw [e1, c19]
    refine ⟨by omega, ?_⟩
    unfold up
    split
    · rfl
    · exact q.2
  have ld : ∀ s : Int, livR T s = false → livR S s = false := fun s q => by
    cases z : livR S s with
    | true => rw [lu s z] at q; exact absurd q (by decide)
    | false => rfl
  refine ⟨⟨by rw [c8, c20]; exact r1, by rw [c10, c21]; exact r2, by rw [c12, c22]; exact r3, by omega, by rw [e0 7 (by decide), f14]; exact r5, by rw [e0 8 (by decide), f15]; exact r6, by rw [c3, f7]; exact r7, by rw [c15, f16]; exact r8, fr_RelT c5 c3' c24 c25 c26 c27 c28 c29 rT, fr_RelR c17 c151 c30 rR, ?_⟩, ⟨by omega, by omega, by omega, by omega, by omega, ?_, ?_⟩, fr_IvO c20 c28 f7 hO, fr_IvF c20 c21 c24 c25 c28 c29 f7 hF, fr_IvD c20 ld hD, fr_IvG c22 ld hG, fr_IvT (by omega) f7 lu c24 c25 c26 c28 c29 hT, fr_IvP c5 f7 c29 hP, ?_, fr_IvB c20 c14 c24 c25 c26 c28 f7 hB, fr_IvU (by omega) c2 hU, fr_IvC c2 c5 hC, fr_IvW c31 hW, fr_IvR c30 f16 hR⟩
  · intro s s0 s1
    rw [c2, c19, c23]
    by_cases q : s = S 18 1
    · have hu := hU s (by omega) (by omega)
      have hs := (hS s s0 (by omega)).1 (Or.inr (by omega))
      rw [hu.1, hu.2, hs, q, up_same]
      exact ⟨⟨fun _ => rfl, fun _ => rfl⟩, rfl⟩
    · rw [up_ne q]
      exact rS s s0 (by omega)
  · intro i
    rw [c19]
    unfold up
    split
    · omega
    · exact g6 i
  · intro t
    rw [c24, c25, c26, c27, c28, c29]
    exact g7 t
  · intro s s0 s8
    rw [c19, c23, e1]
    obtain ⟨a1, a2⟩ := hS s s0 s8
    refine ⟨fun q => a1 ?_, a2⟩
    by_cases z : s = S 18 1
    · exact Or.inr (by omega)
    · rw [up_ne z] at q
      rcases q with q | q
      · exact Or.inl q
      · exact Or.inr (by omega)
theorem Iv_fee (h : Iv S) {x : Int} (hx : 0 ≤ x ∧ x ≤ 500) (eo : ∀ o : Nat, o < 32 → o ≠ 0 → o ≠ 18 → T o = S o) (e08 : T 0 8 = x) (e0 : ∀ i : Int, i ≠ 8 → T 0 i = S 0 i) (e15 : T 18 15 = x) (e18 : ∀ i : Int, i ≠ 0 → i ≠ 15 → T 18 i = S 18 i) : Iv T := by
  obtain ⟨⟨r1, r2, r3, r4, r5, r6, r7, r8, rT, rR, rS⟩, ⟨g1, g2, g3, g4, g5, g6, g7⟩, hO, hF, hD, hG, hT, hP, hS, hB, hU, hC, hW, hR⟩ := h
  have c2 := eo 2 (by decide) (by decide) (by decide)
  have c3 := eo 3 (by decide) (by decide) (by decide)
  have c5 := eo 5 (by decide) (by decide) (by decide)
  have c8 := eo 8 (by decide) (by decide) (by decide)
  have c10 := eo 10 (by decide) (by decide) (by decide)
  have c12 := eo 12 (by decide) (by decide) (by decide)
  have c14 := eo 14 (by decide) (by decide) (by decide)
  have c15 := eo 15 (by decide) (by decide) (by decide)
  have c17 := eo 17 (by decide) (by decide) (by decide)
  have c19 := eo 19 (by decide) (by decide) (by decide)
  have c20 := eo 20 (by decide) (by decide) (by decide)
  have c21 := eo 21 (by decide) (by decide) (by decide)
  have c22 := eo 22 (by decide) (by decide) (by decide)
  have c23 := eo 23 (by decide) (by decide) (by decide)
  have c24 := eo 24 (by decide) (by decide) (by decide)
  have c25 := eo 25 (by decide) (by decide) (by decide)
  have c26 := eo 26 (by decide) (by decide) (by decide)
  have c27 := eo 27 (by decide) (by decide) (by decide)
  have c28 := eo 28 (by decide) (by decide) (by decide)
  have c29 := eo 29 (by decide) (by decide) (by decide)
  have c30 := eo 30 (by decide) (by decide) (by decide)
  have c31 := eo 31 (by decide) (by decide) (by decide)
  have f1 := e18 1 (by decide) (by decide)
  have f7 := e18 7 (by decide) (by decide)
  have f14 := e18 14 (by decide) (by decide)
  have f16 := e18 16 (by decide) (by decide)
  have c3' : T 3 1 = S 3 1 := by rw [c3]
  have c151 : T 15 1 = S 15 1 := by rw [c15]
  have c06 := e0 6 (by decide)
  have lv : ∀ s : Int, livR T s = livR S s := fr_liv f1 c19
  refine ⟨⟨by rw [c8, c20]; exact r1, by rw [c10, c21]; exact r2, by rw [c12, c22]; exact r3, by omega, by rw [e0 7 (by decide), f14]; exact r5, by omega, by rw [c3, f7]; exact r7, by rw [c15, f16]; exact r8, fr_RelT c5 c3' c24 c25 c26 c27 c28 c29 rT, fr_RelR c17 c151 c30 rR, fr_RelS c2 c06 c19 c23 rS⟩, ⟨by omega, by omega, by omega, by omega, by omega, ?_, ?_⟩, fr_IvO c20 c28 f7 hO, fr_IvF c20 c21 c24 c25 c28 c29 f7 hF, fr_IvD c20 (fun s q => by rw [← lv s]; exact q) hD, fr_IvG c22 (fun s q => by rw [← lv s]; exact q) hG, fr_IvT (by omega) f7 (fun s q => by rw [lv s]; exact q) c24 c25 c26 c28 c29 hT, fr_IvP c5 f7 c29 hP, fr_IvS f1 c19 c23 hS, fr_IvB c20 c14 c24 c25 c26 c28 f7 hB, fr_IvU (by omega) c2 hU, fr_IvC c2 c5 hC, fr_IvW c31 hW, fr_IvR c30 f16 hR⟩
  · rw [c19]; exact g6
  · intro t
    rw [c24, c25, c26, c27, c28, c29]
    exact g7 t
theorem Iv_gu (h : Iv S) {f s m : Int} (hf : livR S f = true) (hs : livR S s = true) (hn : f ≠ s) (hm : 0 ≤ S 22 (ix f s) + m ∧ S 22 (ix f s) + m ≤ 1000) (eo : ∀ o : Nat, o < 32 → o ≠ 12 → o ≠ 18 → o ≠ 22 → T o = S o) (c12 : T 12 = adF (S 12) f s m) (c22 : T 22 = adF (S 22) f s m) (e18 : ∀ i : Int, i ≠ 0 → T 18 i = S 18 i) : Iv T := by
  have hif := livR_in hf h.2.1
  have his := livR_in hs h.2.1
  obtain ⟨⟨r1, r2, r3, r4, r5, r6, r7, r8, rT, rR, rS⟩, hg, hO, hF, hD, ⟨G1, G2, G3, G4⟩, hT, hP, hS, hB, hU, hC, hW, hR⟩ := h
  have c0 := eo 0 (by decide) (by decide) (by decide) (by decide)
  have c2 := eo 2 (by decide) (by decide) (by decide) (by decide)
  have c3 := eo 3 (by decide) (by decide) (by decide) (by decide)
  have c5 := eo 5 (by decide) (by decide) (by decide) (by decide)
  have c8 := eo 8 (by decide) (by decide) (by decide) (by decide)
  have c10 := eo 10 (by decide) (by decide) (by decide) (by decide)
  have c14 := eo 14 (by decide) (by decide) (by decide) (by decide)
  have c15 := eo 15 (by decide) (by decide) (by decide) (by decide)
  have c17 := eo 17 (by decide) (by decide) (by decide) (by decide)
  have c19 := eo 19 (by decide) (by decide) (by decide) (by decide)
  have c20 := eo 20 (by decide) (by decide) (by decide) (by decide)
  have c21 := eo 21 (by decide) (by decide) (by decide) (by decide)
  have c23 := eo 23 (by decide) (by decide) (by decide) (by decide)
  have c24 := eo 24 (by decide) (by decide) (by decide) (by decide)
  have c25 := eo 25 (by decide) (by decide) (by decide) (by decide)
  have c26 := eo 26 (by decide) (by decide) (by decide) (by decide)
  have c27 := eo 27 (by decide) (by decide) (by decide) (by decide)
  have c28 := eo 28 (by decide) (by decide) (by decide) (by decide)
  have c29 := eo 29 (by decide) (by decide) (by decide) (by decide)
  have c30 := eo 30 (by decide) (by decide) (by decide) (by decide)
  have c31 := eo 31 (by decide) (by decide) (by decide) (by decide)
  have f1 := e18 1 (by decide)
  have f7 := e18 7 (by decide)
  have f14 := e18 14 (by decide)
  have f15 := e18 15 (by decide)
  have f16 := e18 16 (by decide)
  have c3' : T 3 1 = S 3 1 := by rw [c3]
  have c151 : T 15 1 = S 15 1 := by rw [c15]
  have c06 : T 0 6 = S 0 6 := by rw [c0]
  have lv : ∀ s : Int, livR T s = livR S s := fr_liv f1 c19
  refine ⟨⟨by rw [c8, c20]; exact r1, by rw [c10, c21]; exact r2, by rw [c12, c22, r3], by rw [c0, f1]; exact r4, by rw [c0, f14]; exact r5, by rw [c0, f15]; exact r6, by rw [c3, f7]; exact r7, by rw [c15, f16]; exact r8, fr_RelT c5 c3' c24 c25 c26 c27 c28 c29 rT, fr_RelR c17 c151 c30 rR, fr_RelS c2 c06 c19 c23 rS⟩, fr_RgR f1 f7 f14 f15 f16 c19 c24 c25 c26 c27 c28 c29 hg, fr_IvO c20 c28 f7 hO, fr_IvF c20 c21 c24 c25 c28 c29 f7 hF, fr_IvD c20 (fun s q => by rw [← lv s]; exact q) hD, ?_, fr_IvT (by omega) f7 (fun s q => by rw [lv s]; exact q) c24 c25 c26 c28 c29 hT, fr_IvP c5 f7 c29 hP, fr_IvS f1 c19 c23 hS, fr_IvB c20 c14 c24 c25 c26 c28 f7 hB, fr_IvU (by omega) c2 hU, fr_IvC c2 c5 hC, fr_IvW c31 hW, fr_IvR c30 f16 hR⟩
  have s9 : 0 ≤ s ∧ s < 9 := by omega
  have get : ∀ a b : Int, 0 ≤ b → b < 9 → T 22 (ix a b) = S 22 (ix a b) + if a = f ∧ b = s then m else 0 := fun a b b0 b9 => by
    rw [c22]; exact adF_get s9 ⟨b0, b9⟩
  refine ⟨fun i i0 i9 => ?_, fun k k0 k9 => ?_, fun z z0 z8 hz k k0 k9 => ?_, fun i j i0 i9 j0 j9 => ?_⟩
  · rw [get i i i0 i9, if_neg (by omega), G1 i i0 i9]; rfl
  · have := G2 k k0 k9
    rw [get 8 k k0 k9, get k 8 (by omega) (by omega), if_neg (by omega), if_neg (by omega), this.1, this.2]
    exact ⟨rfl, rfl⟩
  · rw [lv z] at hz
    have hzf : z ≠ f := fun q => by rw [q, hf] at hz; exact absurd hz (by decide)
    have hzs : z ≠ s := fun q => by rw [q, hs] at hz; exact absurd hz (by decide)
    have := G3 z z0 z8 hz k k0 k9
    rw [get k z z0 (by omega), get z k k0 k9, if_neg (by omega), if_neg (by omega), this.1, this.2]
    exact ⟨rfl, rfl⟩
  · have := G4 i j i0 i9 j0 j9
    rw [get i j j0 j9]
    split
    · rename_i q
      rw [q.1, q.2]; exact hm
    · omega
end
