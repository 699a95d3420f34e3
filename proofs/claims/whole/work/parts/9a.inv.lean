/-! ===== what holds between the calls ===== -/
def nvd (st : Fn) (n : Int) : Int := sI (fun t => if st t = 2 then 0 else 1) n.toNat
def fzs (st bu se pa : Fn) (n b s : Int) : Int := sI (fun t => if st t = 1 ∧ bu t = b ∧ se t = s then pa t else 0) n.toNat
def blT (st bu se am : Fn) (n x : Int) : Int := sI (fun t => (if st t ≠ 2 ∧ se t = x then am t else 0) - (if st t ≠ 2 ∧ bu t = x then am t else 0)) n.toNat
/-- nothing of a shop that is none -/
def Dz (S : Mem) (f : Fn) : Prop := ∀ s : Int, 0 ≤ s → s < 8 → livR S s = false → ∀ k : Int, 0 ≤ k → k < 9 → f (ix k s) = 0 ∧ f (ix s k) = 0
def IvO (S : Mem) : Prop := nn9 (S 20) ∧ dz (S 20) ∧ tot (S 20) + 1000 * nvd (S 28) (S 18 7) ≤ 2000 * S 18 7
def IvF (S : Mem) : Prop := Fz (S 20) (S 21) ∧ ∀ b s : Int, 0 ≤ b → b < 9 → 0 ≤ s → s < 9 → S 21 (ix b s) = fzs (S 28) (S 24) (S 25) (S 29) (S 18 7) b s
def IvD (S : Mem) : Prop := Dz8 S (S 20)
def IvG (S : Mem) : Prop := dz (S 22) ∧ gu8 S ∧ Dz S (S 22) ∧ ∀ i j : Int, 0 ≤ i → i < 9 → 0 ≤ j → j < 9 → 0 ≤ S 22 (ix i j) ∧ S 22 (ix i j) ≤ 1000
def IvT (S : Mem) : Prop := ∀ t : Int, 0 ≤ t → t < S 18 7 → S 24 t < S 18 1 ∧ S 25 t < S 18 1 ∧ S 24 t ≠ S 25 t ∧ (S 28 t = 1 → livR S (S 24 t) = true ∧ livR S (S 25 t) = true) ∧ S 29 t ≤ S 26 t
def IvP (S : Mem) : Prop := ∀ t : Int, S 18 7 ≤ t → t < 100 → trd S t 5 = 0 ∧ S 29 t = 0
def IvS (S : Mem) : Prop := ∀ s : Int, 0 ≤ s → s < 8 → (S 19 s = 1 ∨ S 18 1 ≤ s → S 23 s = 0) ∧ -2000000 ≤ S 23 s ∧ S 23 s ≤ 2000000
def IvB (S : Mem) : Prop := ∀ x : Int, 0 ≤ x → x < 9 → bl (S 20) x = blT (S 28) (S 24) (S 25) (S 26) (S 18 7) x + bl (S 14) x
def IvU (S : Mem) : Prop := ∀ s : Int, S 18 1 ≤ s → s < 8 → tg 8 2 (S 2) s 0 = 0 ∧ tg 8 2 (S 2) s 1 = 0
def IvC (S : Mem) : Prop := (∀ i, 0 ≤ tg 8 2 (S 2) i 0 ∧ tg 8 2 (S 2) i 0 ≤ 1) ∧ ∀ t w, -1000000 ≤ trd S t w ∧ trd S t w ≤ 1000000
def IvW (S : Mem) : Prop := ∀ k, -1 ≤ S 31 k ∧ S 31 k ≤ 8
def IvR (S : Mem) : Prop := ∀ r w : Int, 0 ≤ r → r < S 18 16 → 0 ≤ w → w < 7 → -1 ≤ S 30 (rix r w) ∧ S 30 (rix r w) ≤ 200000
def Iv (S : Mem) : Prop := Rel S ∧ RgR S ∧ IvO S ∧ IvF S ∧ IvD S ∧ IvG S ∧ IvT S ∧ IvP S ∧ IvS S ∧ IvB S ∧ IvU S ∧ IvC S ∧ IvW S ∧ IvR S
theorem nvd_nn (st : Fn) (n : Int) : 0 ≤ nvd st n := sI_nn (fun k _ _ => by show (0 : Int) ≤ if _ then 0 else 1; split <;> omega)
theorem Iv_ok {S : Mem} (h : Iv S) : OkD (S 20) := by
  obtain ⟨-, ⟨-, g7, -⟩, ⟨o1, o2, o3⟩, -⟩ := h
  have := nvd_nn (S 28) (S 18 7)
  exact ⟨⟨o1, by omega⟩, o2⟩
theorem Iv_okg {S : Mem} (h : Iv S) : OkD (S 22) := by
  obtain ⟨-, -, -, -, -, ⟨g1, -, -, g4⟩, -⟩ := h
  have e1 : ∀ k : Int, 0 ≤ k → k < ((9 : Nat) : Int) → row (S 22) k ≤ 9000 := fun k k0 k1 => by
    have := sI_bound (n := 9) (f := fun j => S 22 (ix k j)) (c := 1000) (fun j j0 j1 => (g4 k j k0 (by omega) j0 (by omega)).2)
    exact this
  have e2 := sI_bound (n := 9) (f := row (S 22)) (c := 9000) e1
  refine ⟨⟨fun i j i0 i9 j0 j9 => (g4 i j i0 i9 j0 j9).1, ?_⟩, g1⟩
  have e3 : tot (S 22) ≤ ((9 : Nat) : Int) * 9000 := e2
  omega
theorem Iv_rg {S : Mem} (h : Iv S) : Rg S := by
  obtain ⟨⟨-, -, -, a6, a7, a8, a3, -⟩, ⟨g1, g2, g3, g4, -⟩, -, -, -, -, -, -, -, -, -, ⟨c1, c2⟩, -⟩ := h
  exact ⟨by rw [a6]; exact g1, by rw [a7]; exact g3, by rw [a8]; exact g4, by rw [a3]; exact g2, c1, c2⟩
theorem Iv_lim {S : Mem} (h : Iv S) (s : Int) (s0 : 0 ≤ s) (s9 : s < 9) : -1000000 ≤ lim S s ∧ lim S s ≤ 1000000 := by
  have e := rel_lim h.1 h.2.2.2.2.2.1.2.1 ⟨s0, s9⟩
  have e2 := limR_rng h.2.1 (Iv_okg h).1 ⟨s0, s9⟩
  omega
theorem Iv_rw8 {S : Mem} (h : Iv S) : rw8 S := fun t t0 t1 => by
  obtain ⟨-, e1, e2, -⟩ := h.1.2.2.2.2.2.2.2.2.1 t t0 t1
  have := h.2.1.2.2.2.2.2.2 t
  rw [e1, e2]
  exact ⟨this.1, this.2.1⟩
theorem Iv_okC {S : Mem} (h : Iv S) : OkD (S 8) := by rw [h.1.1]; exact Iv_ok h
theorem Iv_fzC {S : Mem} (h : Iv S) : Fz (S 8) (S 10) := by rw [h.1.1, h.1.2.1]; exact h.2.2.2.1.1
theorem Iv_guC {S : Mem} (h : Iv S) : OkD (S 12) := by rw [h.1.2.2.1]; exact Iv_okg h
theorem Iv_nGdC {S : Mem} (h : Iv S) : nGdC S := ⟨Iv_rg h, Iv_okC h, Iv_fzC h⟩
theorem Iv_nGd {S : Mem} (h : Iv S) : nGd S := by
  refine ⟨h.2.1, Iv_ok h, h.2.2.2.1.1, h.2.2.2.2.2.2.2.2.2.2.2.2.1, fun i j i0 i8 j0 j8 q => ?_⟩
  have hd := h.2.2.2.2.1.1
  have dead : ∀ s : Int, S 18 1 ≤ s → livR S s = false := fun s hs => by
    unfold livR
    rw [decide_eq_false (by omega), Bool.false_and]
  have f := h.2.2.2.1.1 i j i0 (by omega) j0 (by omega)
  have e0 : S 20 (ix i j) = 0 := by
    rcases q with q | q
    · exact (hd i i0 i8 (dead i q) j j0 (by omega)).2
    · exact (hd j j0 j8 (dead j q) i i0 (by omega)).1
  exact decide_eq_false (by omega)
theorem Iv_fI {S : Mem} (h : Iv S) : fI S (S 20) := ⟨Iv_ok h, h.2.2.2.1.1, h.2.2.2.2.1⟩
/-! what a piece looks at -/
section
variable {S T : Mem}
theorem fr_RelT (c5 : T 5 = S 5) (c3 : T 3 1 = S 3 1) (c24 : T 24 = S 24) (c25 : T 25 = S 25) (c26 : T 26 = S 26) (c27 : T 27 = S 27) (c28 : T 28 = S 28) (c29 : T 29 = S 29) (h : RelT S) : RelT T := by
  unfold RelT trd at *
  rw [c5, c3, c24, c25, c26, c27, c28, c29]; exact h
theorem fr_RelR (c17 : T 17 = S 17) (c15 : T 15 1 = S 15 1) (c30 : T 30 = S 30) (h : RelR S) : RelR T := by
  unfold RelR at *
  rw [c17, c15, c30]; exact h
theorem fr_RelS (c2 : T 2 = S 2) (c0 : T 0 6 = S 0 6) (c19 : T 19 = S 19) (c23 : T 23 = S 23) (h : RelS S) : RelS T := by
  unfold RelS at *
  rw [c2, c0, c19, c23]; exact h
theorem fr_liv (c1 : T 18 1 = S 18 1) (c19 : T 19 = S 19) (s : Int) : livR T s = livR S s := by
  unfold livR
  rw [c1, c19]
theorem fr_RgR (c1 : T 18 1 = S 18 1) (c7 : T 18 7 = S 18 7) (c14 : T 18 14 = S 18 14) (c15 : T 18 15 = S 18 15) (c16 : T 18 16 = S 18 16) (c19 : T 19 = S 19) (c24 : T 24 = S 24) (c25 : T 25 = S 25) (c26 : T 26 = S 26) (c27 : T 27 = S 27) (c28 : T 28 = S 28) (c29 : T 29 = S 29) (h : RgR S) : RgR T := by
  unfold RgR at *
  rw [c1, c7, c14, c15, c16, c19, c24, c25, c26, c27, c28, c29]; exact h
theorem fr_IvO (c20 : T 20 = S 20) (c28 : T 28 = S 28) (c7 : T 18 7 = S 18 7) (h : IvO S) : IvO T := by
  unfold IvO at *
  rw [c20, c28, c7]; exact h
theorem fr_IvF (c20 : T 20 = S 20) (c21 : T 21 = S 21) (c24 : T 24 = S 24) (c25 : T 25 = S 25) (c28 : T 28 = S 28) (c29 : T 29 = S 29) (c7 : T 18 7 = S 18 7) (h : IvF S) : IvF T := by
  unfold IvF at *
  rw [c20, c21, c24, c25, c28, c29, c7]; exact h
theorem Dz_mono {f : Fn} (hl : ∀ s : Int, livR T s = false → livR S s = false) (h : Dz S f) : Dz T f := fun s s0 s8 hs => h s s0 s8 (hl s hs)
theorem Dz8_mono {f : Fn} (hl : ∀ s : Int, livR T s = false → livR S s = false) (h : Dz8 S f) : Dz8 T f := ⟨fun s s0 s8 hs => h.1 s s0 s8 (hl s hs), h.2⟩
theorem fr_IvD (c20 : T 20 = S 20) (hl : ∀ s : Int, livR T s = false → livR S s = false) (h : IvD S) : IvD T := by
  unfold IvD at *
  rw [c20]; exact Dz8_mono hl h
theorem fr_IvG (c22 : T 22 = S 22) (hl : ∀ s : Int, livR T s = false → livR S s = false) (h : IvG S) : IvG T := by
  unfold IvG gu8 at *
  rw [c22]; exact ⟨h.1, h.2.1, Dz_mono hl h.2.2.1, h.2.2.2⟩
theorem fr_IvT (c1 : S 18 1 ≤ T 18 1) (c7 : T 18 7 = S 18 7) (hl : ∀ s : Int, livR S s = true → livR T s = true) (c24 : T 24 = S 24) (c25 : T 25 = S 25) (c26 : T 26 = S 26) (c28 : T 28 = S 28) (c29 : T 29 = S 29) (h : IvT S) : IvT T := by
  intro t t0 t1
  rw [c7] at t1
  rw [c24, c25, c26, c28, c29]
  obtain ⟨a1, a2, a3, a4, a5⟩ := h t t0 t1
  exact ⟨by omega, by omega, a3, fun q => ⟨hl _ (a4 q).1, hl _ (a4 q).2⟩, a5⟩
theorem fr_IvP (c5 : T 5 = S 5) (c7 : T 18 7 = S 18 7) (c29 : T 29 = S 29) (h : IvP S) : IvP T := by
  unfold IvP trd at *
  rw [c5, c7, c29]; exact h
theorem fr_IvS (c1 : T 18 1 = S 18 1) (c19 : T 19 = S 19) (c23 : T 23 = S 23) (h : IvS S) : IvS T := by
  unfold IvS at *
  rw [c1, c19, c23]; exact h
theorem fr_IvB (c20 : T 20 = S 20) (c14 : T 14 = S 14) (c24 : T 24 = S 24) (c25 : T 25 = S 25) (c26 : T 26 = S 26) (c28 : T 28 = S 28) (c7 : T 18 7 = S 18 7) (h : IvB S) : IvB T := by
  unfold IvB at *
  rw [c20, c14, c24, c25, c26, c28, c7]; exact h
theorem fr_IvU (c1 : S 18 1 ≤ T 18 1) (c2 : T 2 = S 2) (h : IvU S) : IvU T := by
  unfold IvU at *
  rw [c2]; exact fun s s0 s8 => h s (by omega) s8
theorem fr_IvC (c2 : T 2 = S 2) (c5 : T 5 = S 5) (h : IvC S) : IvC T := by
  unfold IvC trd at *
  rw [c2, c5]; exact h
theorem fr_IvW (c31 : T 31 = S 31) (h : IvW S) : IvW T := by
  unfold IvW at *
  rw [c31]; exact h
theorem fr_IvR (c30 : T 30 = S 30) (c16 : T 18 16 = S 18 16) (h : IvR S) : IvR T := by
  unfold IvR at *
  rw [c30, c16]; exact h
end
/-- only the class's and the reference's cells count -/
theorem Iv_cong {S T : Mem} (eo : ∀ o : Nat, o < 32 → o ≠ 18 → T o = S o) (e18 : ∀ i : Int, i ≠ 0 → T 18 i = S 18 i) (h : Iv S) : Iv T := by
  obtain ⟨⟨r1, r2, r3, r4, r5, r6, r7, r8, rT, rR, rS⟩, hg, hO, hF, hD, hG, hT, hP, hS, hB, hU, hC, hW, hR⟩ := h
  have c0 := eo 0 (by decide) (by decide)
  have c2 := eo 2 (by decide) (by decide)
  have c3 := eo 3 (by decide) (by decide)
  have c5 := eo 5 (by decide) (by decide)
  have c8 := eo 8 (by decide) (by decide)
  have c10 := eo 10 (by decide) (by decide)
  have c12 := eo 12 (by decide) (by decide)
  have c14 := eo 14 (by decide) (by decide)
  have c15 := eo 15 (by decide) (by decide)
  have c17 := eo 17 (by decide) (by decide)
  have c19 := eo 19 (by decide) (by decide)
  have c20 := eo 20 (by decide) (by decide)
  have c21 := eo 21 (by decide) (by decide)
  have c22 := eo 22 (by decide) (by decide)
  have c23 := eo 23 (by decide) (by decide)
  have c24 := eo 24 (by decide) (by decide)
  have c25 := eo 25 (by decide) (by decide)
  have c26 := eo 26 (by decide) (by decide)
  have c27 := eo 27 (by decide) (by decide)
  have c28 := eo 28 (by decide) (by decide)
  have c29 := eo 29 (by decide) (by decide)
  have c30 := eo 30 (by decide) (by decide)
  have c31 := eo 31 (by decide) (by decide)
  have f1 := e18 1 (by decide)
  have f7 := e18 7 (by decide)
  have f14 := e18 14 (by decide)
  have f15 := e18 15 (by decide)
  have f16 := e18 16 (by decide)
  have lv : ∀ s : Int, livR T s = livR S s := fr_liv f1 c19
  have c31' : T 3 1 = S 3 1 := by rw [c3]
  have c151 : T 15 1 = S 15 1 := by rw [c15]
  have c06 : T 0 6 = S 0 6 := by rw [c0]
  exact ⟨⟨by rw [c8, c20]; exact r1, by rw [c10, c21]; exact r2, by rw [c12, c22]; exact r3, by rw [c0, f1]; exact r4, by rw [c0, f14]; exact r5, by rw [c0, f15]; exact r6, by rw [c3, f7]; exact r7, by rw [c15, f16]; exact r8, fr_RelT c5 c31' c24 c25 c26 c27 c28 c29 rT, fr_RelR c17 c151 c30 rR, fr_RelS c2 c06 c19 c23 rS⟩, fr_RgR f1 f7 f14 f15 f16 c19 c24 c25 c26 c27 c28 c29 hg, fr_IvO c20 c28 f7 hO, fr_IvF c20 c21 c24 c25 c28 c29 f7 hF, fr_IvD c20 (fun s q => by rw [← lv s]; exact q) hD, fr_IvG c22 (fun s q => by rw [← lv s]; exact q) hG, fr_IvT (by omega) f7 (fun s q => by rw [lv s]; exact q) c24 c25 c26 c28 c29 hT, fr_IvP c5 f7 c29 hP, fr_IvS f1 c19 c23 hS, fr_IvB c20 c14 c24 c25 c26 c28 f7 hB, fr_IvU (by omega) c2 hU, fr_IvC c2 c5 hC, fr_IvW c31 hW, fr_IvR c30 f16 hR⟩
