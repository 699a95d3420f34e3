/-! ===== the fees of a night: class and reference do the same ===== -/
def Dz8 (S : Mem) (ow : Fn) : Prop := (∀ s : Int, 0 ≤ s → s < 8 → livR S s = false → ∀ k : Int, 0 ≤ k → k < 9 → ow (ix k s) = 0 ∧ ow (ix s k) = 0) ∧ ∀ k : Int, 0 ≤ k → k < 9 → ow (ix 8 k) = 0
def fI (S : Mem) (ow : Fn) : Prop := OkD ow ∧ Fz ow (S 21) ∧ Dz8 S ow
theorem pyS_dz {S : Mem} {fz : Fn} {s : Int} {x : Fn × Int} (hs : 0 ≤ s ∧ s < 8) (hl : livR S s = true) (h : pyOk fz x) (hd : Dz8 S x.1) : Dz8 S (pyS fz s x).1 := by
  unfold pyS
  by_cases q : 0 < x.2 ∧ mxF x.1 fz s 8 ≠ -1
  · rw [if_pos q]
    rcases mxF_is x.1 fz s 8 with z | ⟨z1, z2, z3, -, -⟩
    · exact absurd z.1 q.2
    · have e0 := h.2.1 (mxF x.1 fz s 8) s z1 (by omega) hs.1 (by omega)
      have hp : 0 < x.1 (ix (mxF x.1 fz s 8) s) := by
        unfold opF at z3
        omega
      refine ⟨fun t t0 t8 ht k k0 k9 => ?_, fun k k0 k9 => ?_⟩
      · have hts : t ≠ s := fun w => by rw [w, hl] at ht; exact absurd ht (by decide)
        have hd0 := hd.1 t t0 t8 ht k k0 k9
        have hds := hd.1 t t0 t8 ht s hs.1 (by omega)
        have htb : t ≠ mxF x.1 fz s 8 := fun w => by rw [← w] at hp; omega
        refine ⟨?_, ?_⟩
        · show adF (adF x.1 _ s _) _ 8 _ (ix k t) = 0
          rw [adF_get (by omega) (by omega), adF_get (by omega) (by omega), if_neg (show ¬ (k = mxF x.1 fz s 8 ∧ t = 8) from fun w => by omega), if_neg (show ¬ (k = mxF x.1 fz s 8 ∧ t = s) from fun w => hts w.2), hd0.1]
          rfl
        · show adF (adF x.1 _ s _) _ 8 _ (ix t k) = 0
          rw [adF_get (by omega) (by omega), adF_get (by omega) (by omega), if_neg (fun w => htb w.1), if_neg (fun w => htb w.1), hd0.2]
          rfl
      · have h8 := hd.2 k k0 k9
        show adF (adF x.1 _ s _) _ 8 _ (ix 8 k) = 0
        rw [adF_get (by omega) (by omega), adF_get (by omega) (by omega), if_neg (fun w => absurd w.1 (by omega)), if_neg (fun w => absurd w.1 (by omega)), h8]
        rfl
  · rw [if_neg q]
    exact hd
theorem pyN_dz {S : Mem} {fz : Fn} {s : Int} {x : Fn × Int} (hs : 0 ≤ s ∧ s < 8) (hl : livR S s = true) (h : pyOk fz x) (hd : Dz8 S x.1) : ∀ n : Nat, Dz8 S (pyN fz s x n).1
  | 0 => hd
  | n + 1 => pyS_dz hs hl (pyN_ok hs h n) (pyN_dz hs hl h hd n)
theorem fyF_fI {S : Mem} {ow : Fn} {s : Int} (hg : RgR S) (hs : 0 ≤ s ∧ s < 8) (hj : s < S 18 1) (h : fI S ow) : fI S (fyF S s ow) := by
  unfold fyF
  split
  · rename_i q
    have hl : livR S s = true := by
      unfold livR
      rw [decide_eq_true ⟨hs.1, hj⟩, Bool.true_and]
      exact (Bool.and_eq_true _ _ ▸ q).1
    have h0 := py0_ok hg hs h.1 h.2.1
    have h1 := pyN_ok hs h0 ((bl ow s * S 18 15).tdiv 1000).toNat
    exact ⟨h1.1, h1.2.1, pyN_dz hs hl h0 h.2.2 _⟩
  · exact h
theorem bl_dead {S : Mem} {ow : Fn} {s : Int} (hs : 0 ≤ s ∧ s < 8) (hl : livR S s = false) (h : Dz8 S ow) : bl ow s = 0 := by
  have e1 : col ow s = sI (fun _ => 0) 9 := sI_cong (fun k k0 k1 => (h.1 s hs.1 hs.2 hl k k0 k1).1)
  have e2 : row ow s = sI (fun _ => 0) 9 := sI_cong (fun k k0 k1 => (h.1 s hs.1 hs.2 hl k k0 k1).2)
  unfold bl
  rw [e1, e2]
  rfl
theorem col_op {S : Mem} {ow fz : Fn} {s : Int} (hs : 0 ≤ s ∧ s < 8) (hf : Fz ow fz) (h : Dz8 S ow) : col ow s - col fz s = opS ow fz s := by
  have e8 := h.2 s hs.1 (by omega)
  have f8 := hf 8 s (by omega) (by omega) hs.1 (by omega)
  have e : opS ow fz s = sI (fun k => ow (ix k s)) 8 - sI (fun k => fz (ix k s)) 8 := sI_sub _ _ 8
  rw [e]
  unfold col
  rw [show sI (fun i => ow (ix i s)) 9 = sI (fun i => ow (ix i s)) 8 + ow (ix 8 s) from rfl, show sI (fun i => fz (ix i s)) 9 = sI (fun i => fz (ix i s)) 8 + fz (ix 8 s) from rfl]
  omega
theorem fsF_is {S : Mem} {x : Fn × Fn} {s : Int} (hr : Rel S) (hg : RgR S) (hs : 0 ≤ s ∧ s < 8) (h : fI S x.1) : (fsF S s x).1 = if s < S 18 1 then fyF S s x.1 else x.1 := by
  have hlz := rel_laz hr x.1 s
  unfold fsF fyF
  by_cases hl : livR S s = true
  · have hl2 := livR_in hl hg
    rw [if_pos hl2.2.2.1, hlz, decide_eq_true hl2.2.2.2, Bool.true_and]
    by_cases q : lazF S x.1 s = true
    · rw [if_pos q, if_pos q]
      have hrr := py0_ok hg hs h.1 h.2.1
      have e : mn (due S x.1 s) (col x.1 s - col (S 10) s) = mn ((bl x.1 s * S 18 15).tdiv 1000) (opS x.1 (S 21) s) := by
        unfold due
        rw [hr.2.1, hr.2.2.2.2.2.1, col_op hs h.2.1 h.2.2]
      show (pfL (S 10) s 8 (x.1, x.2, mn (due S x.1 s) (col x.1 s - col (S 10) s))).1 = _
      rw [e, hr.2.1]
      exact pf_py hs h.1 h.2.1 hrr.2.2
    · rw [if_neg q, if_neg q]
  · have hl0 : livR S s = false := by
      cases q : livR S s with
      | true => exact absurd q hl
      | false => rfl
    have hb := bl_dead hs hl0 h.2.2
    have hz : lazF S x.1 s = false := by
      unfold lazF
      rw [hb]
      rfl
    rw [hlz, hz, Bool.and_false]
    simp
theorem fs_fy {S : Mem} {ow gu : Fn} (hr : Rel S) (hg : RgR S) (h : fI S ow) : ∀ n : Nat, n ≤ 8 → (fsA S (ow, gu) n).1 = fyA S ow (Nat.min n (S 18 1).toNat) ∧ fI S (fsA S (ow, gu) n).1
  | 0, _ => by
    rw [show Nat.min 0 (S 18 1).toNat = 0 from Nat.min_eq_left (Nat.zero_le _)]
    exact ⟨rfl, h⟩
  | n + 1, hn => by
    obtain ⟨e1, e2⟩ := fs_fy hr hg h n (by omega)
    have hs : 0 ≤ (n : Int) ∧ (n : Int) < 8 := by omega
    have e3 := fsF_is (s := (n : Int)) hr hg hs e2
    show (fsF S n (fsA S (ow, gu) n)).1 = _ ∧ fI S (fsF S n (fsA S (ow, gu) n)).1
    by_cases q : (n : Int) < S 18 1
    · rw [if_pos q] at e3
      refine ⟨?_, by rw [e3]; exact fyF_fI hg hs q e2⟩
      rw [e3, e1, show Nat.min n (S 18 1).toNat = n from Nat.min_eq_left (by omega), show Nat.min (n + 1) (S 18 1).toNat = n + 1 from Nat.min_eq_left (by omega)]
      rfl
    · rw [if_neg q] at e3
      refine ⟨?_, by rw [e3]; exact e2⟩
      rw [e3, e1, show Nat.min n (S 18 1).toNat = (S 18 1).toNat from Nat.min_eq_right (by omega), show Nat.min (n + 1) (S 18 1).toNat = (S 18 1).toNat from Nat.min_eq_right (by omega)]
theorem fees_is {S : Mem} {ow gu : Fn} (hr : Rel S) (hg : RgR S) (h : fI S ow) : (fsA S (ow, gu) 8).1 = fyA S ow (S 18 1).toNat ∧ fI S (fyA S ow (S 18 1).toNat) := by
  have e := fs_fy (gu := gu) hr hg h 8 (Nat.le_refl 8)
  have hj := hg.1
  rw [show Nat.min 8 (S 18 1).toNat = (S 18 1).toNat from Nat.min_eq_right (by omega)] at e
  exact ⟨e.1, e.1 ▸ e.2⟩
