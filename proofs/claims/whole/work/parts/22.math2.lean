/-! ===== fees ===== -/
theorem td_rng {x k B : Int} (hk : 0 < k) (h1 : -B ≤ x) (h2 : x ≤ B) : -B ≤ x.tdiv k ∧ x.tdiv k ≤ B := by
  have nn : ∀ y : Int, 0 ≤ y → 0 ≤ y.tdiv k ∧ y.tdiv k ≤ y := by
    intro y hy
    rw [Int.tdiv_eq_ediv_of_nonneg hy]
    exact ⟨Int.ediv_nonneg hy (by omega), Int.ediv_le_self k hy⟩
  by_cases h : 0 ≤ x
  · have := nn x h
    omega
  · have h3 := nn (-x) (by omega)
    rw [Int.neg_tdiv] at h3
    omega
theorem mul_rng {b f B F : Int} (h1 : -B ≤ b) (h2 : b ≤ B) (h3 : 0 ≤ f) (h4 : f ≤ F) (hB : 0 ≤ B) : -(B * F) ≤ b * f ∧ b * f ≤ B * F := by
  have e1 : b * f ≤ B * f := Int.mul_le_mul_of_nonneg_right h2 h3
  have e2 : B * f ≤ B * F := Int.mul_le_mul_of_nonneg_left h4 hB
  have e3 : -B * f ≤ b * f := Int.mul_le_mul_of_nonneg_right h1 h3
  rw [Int.neg_mul] at e3
  omega
/-- what is frozen is within what is owed -/
def Fz (ow fz : Fn) : Prop := ∀ i j : Int, 0 ≤ i → i < 9 → 0 ≤ j → j < 9 → 0 ≤ fz (ix i j) ∧ fz (ix i j) ≤ ow (ix i j)
def gdF (ow fz : Fn) (s : Int) : Nat → Int
  | 0 => 0
  | n + 1 => if ow (ix (gdF ow fz s n) s) - fz (ix (gdF ow fz s n) s) < ow (ix ((n : Int) + 1) s) - fz (ix ((n : Int) + 1) s) then (n : Int) + 1 else gdF ow fz s n
theorem gdF_in (ow fz : Fn) (s : Int) : ∀ n : Nat, 0 ≤ gdF ow fz s n ∧ gdF ow fz s n ≤ n
  | 0 => by simp [gdF]
  | n + 1 => by
    have := gdF_in ow fz s n
    unfold gdF
    split <;> omega
theorem opn_ix {S : Mem} {i j : Int} (hi : 0 ≤ i ∧ i < 9) (hj : 0 ≤ j ∧ j < 9) : opn S i j = S 8 (ix i j) - S 10 (ix i j) := by
  unfold opn
  rw [tg_ix hi hj, tg_ix hi hj]
theorem god_gdF {S : Mem} {s : Int} (hs : 0 ≤ s ∧ s < 9) : ∀ n : Nat, n ≤ 8 → god S s n = gdF (S 8) (S 10) s n
  | 0, _ => rfl
  | n + 1, h => by
    have h1 := gdF_in (S 8) (S 10) s n
    rw [god, gdF, god_gdF hs n (by omega), opn_ix (by omega) hs, opn_ix (by omega) hs]
theorem opnOk_of {S : Mem} (h : Ok (S 8)) (hf : Fz (S 8) (S 10)) : opnOk S := by
  intro i j
  by_cases hi : 0 ≤ i ∧ i < 9 ∧ 0 ≤ j ∧ j < 9
  · rw [opn_ix (by omega) (by omega)]
    have h1 := h.ent (i := i) (j := j) (by omega) (by omega)
    have h2 := hf i j hi.1 hi.2.1 hi.2.2.1 hi.2.2.2
    omega
  · unfold opn tg
    rw [if_neg (by omega), if_neg (by omega)]
    omega
/-- one debtor's part of a fee: what is owed, what was given up, what is still to pay -/
def pfF (fz : Fn) (s : Int) (x : Fn × Fn × Int) : Fn × Fn × Int :=
  (adF (adF x.1 (gdF x.1 fz s 7) s (-(mn x.2.2 (x.1 (ix (gdF x.1 fz s 7) s) - fz (ix (gdF x.1 fz s 7) s))))) (gdF x.1 fz s 7) 8 (mn x.2.2 (x.1 (ix (gdF x.1 fz s 7) s) - fz (ix (gdF x.1 fz s 7) s))),
   adF x.2.1 s 8 (mn x.2.2 (x.1 (ix (gdF x.1 fz s 7) s) - fz (ix (gdF x.1 fz s 7) s))),
   x.2.2 - mn x.2.2 (x.1 (ix (gdF x.1 fz s 7) s) - fz (ix (gdF x.1 fz s 7) s)))
def pfL (fz : Fn) (s : Int) : Nat → Fn × Fn × Int → Fn × Fn × Int
  | 0, x => x
  | n + 1, x => if 0 < x.2.2 then pfL fz s n (pfF fz s x) else x
theorem pfL_stop {fz : Fn} {s : Int} {x : Fn × Fn × Int} (h : ¬ 0 < x.2.2) : ∀ n, pfL fz s n x = x
  | 0 => rfl
  | n + 1 => if_neg h
def pfOk (fz : Fn) (x : Fn × Fn × Int) : Prop := OkD x.1 ∧ Fz x.1 fz ∧ -100000000 ≤ x.2.2 ∧ x.2.2 ≤ 100000000
theorem pay_ok {ow fz : Fn} {b s m : Int} (hb : 0 ≤ b ∧ b < 8) (hs : 0 ≤ s ∧ s < 8) (h : OkD ow) (hf : Fz ow fz) (hm : 0 ≤ m ∧ m ≤ ow (ix b s) - fz (ix b s)) : OkD (adF (adF ow b s (-m)) b 8 m) ∧ Fz (adF (adF ow b s (-m)) b 8 m) fz := by
  have e0 := hf b s hb.1 (by omega) hs.1 (by omega)
  have h1 := adF_ok (i := b) (j := s) (m := m) (by omega) (by omega) h (by omega)
  have h8 : (0 : Int) ≤ 8 ∧ (8 : Int) < 9 := by omega
  have hs9 : 0 ≤ s ∧ s < 9 := by omega
  refine ⟨⟨⟨fun a c a0 a9 c0 c9 => ?_, ?_⟩, fun a a0 a9 => ?_⟩, fun a c a0 a9 c0 c9 => ?_⟩
  · rw [adF_get h8 ⟨c0, c9⟩]
    have := h1.1.1 a c a0 a9 c0 c9
    split <;> omega
  · rw [tot_adF (by omega) h8, tot_adF (by omega) hs9]
    have := h.1.2
    omega
  · rw [adF_get h8 ⟨a0, a9⟩, h1.2 a a0 a9, if_neg (by omega)]
    rfl
  · rw [adF_get h8 ⟨c0, c9⟩, adF_get hs9 ⟨c0, c9⟩]
    have e1 := hf a c a0 a9 c0 c9
    by_cases q : a = b ∧ c = s
    · obtain ⟨rfl, rfl⟩ := q
      rw [if_pos ⟨rfl, rfl⟩, if_neg (by omega)]
      omega
    · rw [if_neg q]
      split <;> omega
theorem pfF_ok {fz : Fn} {s : Int} {x : Fn × Fn × Int} (hs : 0 ≤ s ∧ s < 8) (h : pfOk fz x) (hr : 0 < x.2.2) : pfOk fz (pfF fz s x) := by
  obtain ⟨h1, h2, h3, h4⟩ := h
  have hg := gdF_in x.1 fz s 7
  have e0 := h2 (gdF x.1 fz s 7) s (by omega) (by omega) (by omega) (by omega)
  have hm := mn_le x.2.2 (x.1 (ix (gdF x.1 fz s 7) s) - fz (ix (gdF x.1 fz s 7) s))
  have hp := pay_ok (b := gdF x.1 fz s 7) (s := s) (m := mn x.2.2 (x.1 (ix (gdF x.1 fz s 7) s) - fz (ix (gdF x.1 fz s 7) s))) (by omega) hs h1 h2 (by omega)
  refine ⟨hp.1, hp.2, ?_, ?_⟩
  · show -100000000 ≤ x.2.2 - mn _ _
    omega
  · show x.2.2 - mn _ _ ≤ 100000000
    omega
theorem pfL_ok {fz : Fn} {s : Int} (hs : 0 ≤ s ∧ s < 8) : ∀ (n : Nat) (x : Fn × Fn × Int), pfOk fz x → pfOk fz (pfL fz s n x)
  | 0, x, h => h
  | n + 1, x, h => by
    unfold pfL
    split
    · rename_i hr
      exact pfL_ok hs n _ (pfF_ok hs h hr)
    · exact h
/-- whether a shop traded of late -/
def rec4 (S : Mem) (s : Int) : Bool := anyI (fun t => isof S s t && decide (S 0 7 - 5 + 1 ≤ trd S t 4)) (S 3 1).toNat
def idF (S : Mem) (ow : Fn) (s : Int) : Bool := decide (0 < bl ow s) && !rec4 S s
def due (S : Mem) (ow : Fn) (s : Int) : Int := (bl ow s * S 0 8).tdiv 1000
def pfR (S : Mem) (s : Int) (x : Fn × Fn) : Fn × Fn := ((pfL (S 10) s 8 (x.1, x.2, mn (due S x.1 s) (col x.1 s - col (S 10) s))).1, (pfL (S 10) s 8 (x.1, x.2, mn (due S x.1 s) (col x.1 s - col (S 10) s))).2.1)
def fsF (S : Mem) (s : Int) (x : Fn × Fn) : Fn × Fn := if idF S x.1 s = true then pfR S s x else x
def fsA (S : Mem) (x : Fn × Fn) (n : Nat) : Fn × Fn := it (fun s => fsF S s) x n
theorem due_rng {S : Mem} {ow : Fn} {s : Int} (h : Ok ow) (hs : 0 ≤ s ∧ s < 9) (hf : 0 ≤ S 0 8 ∧ S 0 8 ≤ 500) : (-100000000 ≤ bl ow s * S 0 8 ∧ bl ow s * S 0 8 ≤ 100000000) ∧ -100000000 ≤ due S ow s ∧ due S ow s ≤ 100000000 := by
  have h1 := h.bl hs
  have h2 := mul_rng h1.1 h1.2 hf.1 hf.2 (by omega)
  rw [show (200000 : Int) * 500 = 100000000 from rfl] at h2
  exact ⟨h2, td_rng (by omega) h2.1 h2.2⟩
theorem open_rng {ow fz : Fn} {s : Int} (h : Ok ow) (hf : Fz ow fz) (hs : 0 ≤ s ∧ s < 9) : 0 ≤ col ow s - col fz s ∧ col ow s - col fz s ≤ 200000 := by
  have h1 : 0 ≤ col fz s := sI_nn (fun k a b => (hf k s a b hs.1 hs.2).1)
  have h2 : col fz s ≤ col ow s := sI_mono (fun k a b => (hf k s a b hs.1 hs.2).2)
  have h3 := col_le h.1 hs
  have h4 := h.2
  omega
theorem pf0_ok {S : Mem} {x : Fn × Fn} {s : Int} (hs : 0 ≤ s ∧ s < 9) (h1 : OkD x.1) (h2 : Fz x.1 (S 10)) (hf : 0 ≤ S 0 8 ∧ S 0 8 ≤ 500) : pfOk (S 10) (x.1, x.2, mn (due S x.1 s) (col x.1 s - col (S 10) s)) := by
  have e1 := due_rng (S := S) h1.1 hs hf
  have e2 := open_rng h1.1 h2 hs
  have e3 := mn_le (due S x.1 s) (col x.1 s - col (S 10) s)
  refine ⟨h1, h2, ?_, ?_⟩
  · show -100000000 ≤ mn _ _
    omega
  · show mn _ _ ≤ 100000000
    omega
def fsOk (S : Mem) (x : Fn × Fn) : Prop := OkD x.1 ∧ Fz x.1 (S 10)
theorem fsF_ok {S : Mem} {x : Fn × Fn} {s : Int} (hs : 0 ≤ s ∧ s < 8) (hf : 0 ≤ S 0 8 ∧ S 0 8 ≤ 500) (h : fsOk S x) : fsOk S (fsF S s x) := by
  unfold fsF
  split
  · have := pfL_ok hs 8 _ (pf0_ok (s := s) (by omega) h.1 h.2 hf)
    exact ⟨this.1, this.2.1⟩
  · exact h
theorem fsA_ok {S : Mem} {x : Fn × Fn} (hf : 0 ≤ S 0 8 ∧ S 0 8 ≤ 500) (h : fsOk S x) {n : Nat} (hn : n ≤ 8) : fsOk S (fsA S x n) := it_inv h (fun k y a b hy => fsF_ok (by omega) hf hy)
/-- ranges of the class's small numbers -/
def Rg (S : Mem) : Prop := (0 ≤ S 0 6 ∧ S 0 6 ≤ 8) ∧ (0 ≤ S 0 7 ∧ S 0 7 ≤ 20000) ∧ (0 ≤ S 0 8 ∧ S 0 8 ≤ 500) ∧ (0 ≤ S 3 1 ∧ S 3 1 ≤ 100) ∧ (∀ i, 0 ≤ tg 8 2 (S 2) i 0 ∧ tg 8 2 (S 2) i 0 ≤ 1) ∧ ∀ t w, -1000000 ≤ trd S t w ∧ trd S t w ≤ 1000000
theorem Rg.trd {S : Mem} (h : Rg S) : trdOk S := fun t w => by
  have := h.2.2.2.2.2 t w
  omega
def was (S : Mem) (s : Int) : Bool := decide (0 ≤ s ∧ s < S 0 6)
def liv (S : Mem) (s : Int) : Bool := was S s && decide (tg 8 2 (S 2) s 0 = 0)
def lim (S : Mem) (s : Int) : Int := 500 + col (S 12) s - row (S 12) s + (sI (amtF S s (S 0 7 - 10 + 1)) (S 3 1).toNat).tdiv 10
theorem amt_rng {S : Mem} (h : Rg S) (s d : Int) : -100000000 ≤ sI (amtF S s d) (S 3 1).toNat ∧ sI (amtF S s d) (S 3 1).toNat ≤ 100000000 := by
  have hn := h.2.2.2.1
  have hb : ∀ k : Int, -1000000 ≤ amtF S s d k ∧ amtF S s d k ≤ 1000000 := by
    intro k
    have := h.2.2.2.2.2 k 3
    unfold amtF
    split <;> omega
  have e1 := sI_bound (f := amtF S s d) (c := 1000000) (n := (S 3 1).toNat) (fun k _ _ => (hb k).2)
  have e2 := sI_bound (f := fun k => 0 - amtF S s d k) (c := 1000000) (n := (S 3 1).toNat) (fun k _ _ => by have := hb k; omega)
  rw [sI_sub (fun _ => 0) (amtF S s d), sI_zero (f := fun _ => 0) (fun _ _ _ => rfl)] at e2
  omega
