/-! ===== the reference's calls: what they answer, which exception they tell ===== -/
theorem mset_o {S : Mem} {o o2 : Nat} {i v : Int} (h : o2 ≠ o) : mset S o i v o2 = S o2 := by
  funext j
  unfold mset
  rw [if_neg (fun q => h q.1)]
theorem mset_i {S : Mem} {o : Nat} {i i2 v : Int} (h : i2 ≠ i) : mset S o i v o i2 = S o i2 := if_neg (fun q => h q.2)
def thr (S : Mem) (k : Int) : Mem := mset S 18 0 k
theorem thr_facts (S : Mem) (k : Int) : (∀ o : Nat, o ≠ 18 → thr S k o = S o) ∧ (∀ i : Int, i ≠ 0 → thr S k 18 i = S 18 i) ∧ thr S k 18 0 = k := ⟨fun _ h => mset_o h, fun _ h => mset_i h, mset_hit S 18 0 k⟩
theorem thr_rg {S : Mem} (k : Int) (h : RgR S) : RgR (thr S k) := h
theorem thr0 (S : Mem) (hg : RgR S) : ∃ S0 : Mem, S0 = mset S 18 0 0 ∧ RgR S0 ∧ S0 18 1 = S 18 1 ∧ S0 18 7 = S 18 7 ∧ S0 18 14 = S 18 14 ∧ S0 18 15 = S 18 15 ∧ S0 18 16 = S 18 16 ∧ ∀ o : Nat, o ≠ 18 → S0 o = S o := ⟨_, rfl, thr_rg 0 hg, rfl, rfl, rfl, rfl, rfl, fun _ h => mset_o h⟩
def cdJoin (S : Mem) : Int := if S 18 1 = 8 then 1 else 0
def stJoin (S : Mem) : Mem := mset (mset (thr S 0) 19 (S 18 1) 1) 18 1 (S 18 1 + 1)
def cdTrade (S : Mem) (b s a : Int) : Int := if (livR S b && livR S s) = false then 1 else if (decide (1 ≤ a ∧ a ≤ 1000) && decide (b ≠ s)) = false then 2 else if (decide (S 18 7 = 100) || decide (bl (S 20) b - a + limR S b < 0)) = true then 3 else 0
def stTrade (S : Mem) (b s a : Int) : Mem := mset (mset (mset (mset (mset (mset (mset (thr S 0) 24 (S 18 7) b) 25 (S 18 7) s) 26 (S 18 7) a) 27 (S 18 7) (S 18 14)) 28 (S 18 7) 0) 20 (ix b s) (S 20 (ix b s) + a)) 18 7 (S 18 7 + 1)
def cdDisp (S : Mem) (t : Int) : Int := if trR S t = false then 1 else if S 28 t = 0 ∧ S 19 (S 24 t) ≠ 0 ∧ S 19 (S 25 t) ≠ 0 then 0 else 2
def ptD (S : Mem) (t : Int) : Int := mn (S 26 t) (S 20 (ix (S 24 t) (S 25 t)) - S 21 (ix (S 24 t) (S 25 t)))
def stDisp (S : Mem) (t : Int) : Mem := mset (mset (mset (thr S 0) 29 t (ptD S t)) 21 (ix (S 24 t) (S 25 t)) (S 21 (ix (S 24 t) (S 25 t)) + ptD S t)) 28 t 1
def cdSett (S : Mem) (t : Int) : Int := if trR S t = false then 1 else if S 28 t = 1 then 0 else 2
def moS (S : Mem) (t z : Int) : Int := if z = 0 then 0 else S 26 t - S 29 t
def pzS (S : Mem) (t z : Int) : Int := if z = 0 then 0 else S 29 t
def stSett (S : Mem) (t z : Int) : Mem := mput (mput (mput (mput (thr S 0) 21 (adF (S 21) (S 24 t) (S 25 t) (-(S 29 t)))) 20 (adF (adF (S 20) (S 24 t) (S 25 t) (-(pzS S t z))) (S 25 t) (S 24 t) (moS S t z))) 29 (up (S 29) t 0)) 28 (up (S 28) t (if z = 0 then 0 else 2))
def cdGuar (S : Mem) (f s a : Int) : Int := if (livR S f && livR S s) = false then 1 else if (decide (1 ≤ a ∧ a ≤ 500) && decide (f ≠ s)) = false then 2 else if (decide (1000 < S 22 (ix f s) + a) || decide (bl (S 20) f + (limR S f - a) < 0)) = true then 3 else 0
def cdRevo (S : Mem) (f s a : Int) : Int := if (livR S f && livR S s) = false then 1 else if (decide (1 ≤ a ∧ a ≤ 500) && decide (f ≠ s)) = false then 2 else if (decide (S 22 (ix f s) < a) || decide (bl (S 20) s + (limR S s - a) < 0)) = true then 3 else 0
def stGu (S : Mem) (f s a : Int) : Mem := mput (thr S 0) 22 (adF (S 22) f s a)
def cdFee (x : Int) : Int := if decide (0 ≤ x ∧ x ≤ 500) = true then 0 else 1
def cdNight (x : Int) : Int := if decide (1 ≤ x ∧ x ≤ 20) = true then 0 else 1
def cdBal (S : Mem) (x : Int) : Int := if (wasR S x || decide (x = 8)) = true then 0 else 1
def cdLim (S : Mem) (x : Int) : Int := if livR S x = true then 0 else 1
def cdOwes (S : Mem) (x y : Int) : Int := if (wasR S x && (wasR S y || decide (y = 8))) = true then 0 else 1
def cdTwo (S : Mem) (x y : Int) : Int := if (wasR S x && wasR S y) = true then 0 else 1
def cdOne (S : Mem) (x : Int) : Int := if wasR S x = true then 0 else 1
def cdOfT (S : Mem) (t w : Int) : Int := if trR S t = false then 1 else if decide (0 ≤ w ∧ w ≤ 5) = true then 0 else 2
def ofT (S : Mem) (t w : Int) : Int := if w = 0 then S 28 t else if w = 1 then S 24 t else if w = 2 then S 25 t else if w = 3 then S 26 t else if w = 4 then S 27 t else S 29 t
def cdRing (S : Mem) (r w : Int) : Int := if decide (0 ≤ r ∧ r < S 18 16) = false then 1 else if decide (0 ≤ w ∧ w ≤ 6) = true then 0 else 2
def cdLeav (S : Mem) (x : Int) : Int := if livR S x = false then 1 else if anyI (fun t => isofR S x t && decide (S 28 t = 1)) (S 18 7).toNat = true then 2 else 0
/-- a call's end: the exception told, or the answer and what has become of the memory -/
def RP (S : Mem) (cd val : Int) (st : Mem) (v : Int) (S' : Mem) : Prop := (cd ≠ 0 → S' = thr S cd) ∧ (cd = 0 → v = val ∧ S' = st)
theorem RP_bad {S : Mem} {cd k val v : Int} {st : Mem} (h : cd = k) (hk : k ≠ 0) : RP S cd val st v (mset S 18 0 k) := ⟨fun _ => by rw [h]; rfl, fun z => absurd (h.symm.trans z) hk⟩
theorem RP_ok {S : Mem} {cd val v : Int} {st S' : Mem} (h : cd = 0) (h1 : v = val) (h2 : S' = st) : RP S cd val st v S' := ⟨fun z => absurd h z, fun _ => ⟨h1, h2⟩⟩
/-! the passing on as a function -/
theorem psN_stuck {s : Int} {ow : Fn} (h : pstuck s ow) : pst s ow = ow := by
  unfold pst
  rw [if_neg (fun q => h.elim q.1 q.2)]
theorem psN_fix {s : Int} {ow : Fn} {n : Nat} (h : pstuck s (psN s ow n)) : ∀ k : Nat, psN s ow (n + k) = psN s ow n
  | 0 => rfl
  | k + 1 => by
    show pst s (psN s ow (n + k)) = _
    rw [psN_fix h k, psN_stuck h]
theorem psN_det {s : Int} {ow : Fn} {n m : Nat} (h1 : pstuck s (psN s ow n)) (h2 : pstuck s (psN s ow m)) : psN s ow n = psN s ow m := by
  rcases Nat.le_total n m with q | q
  · rw [← psN_fix h1 (m - n), show n + (m - n) = m by omega]
  · rw [← psN_fix h2 (n - m), show m + (n - m) = n by omega]
theorem psN_tot {s : Int} {ow : Fn} (hs : 0 ≤ s ∧ s < 9) (h : OkD ow) : ∀ n : Nat, pstuck s (psN s ow n) ∨ tot (psN s ow n) + n ≤ tot ow
  | 0 => Or.inr (by show tot ow + 0 ≤ tot ow; omega)
  | n + 1 => by
    by_cases q : pstuck s (psN s ow n)
    · exact Or.inl (by show pstuck s (pst s (psN s ow n)); rw [psN_stuck q]; exact q)
    · refine Or.inr ?_
      rcases psN_tot hs h n with z | z
      · exact absurd z q
      · have h1 : ldF (psN s ow n) s ≠ -1 := fun w => q (Or.inl w)
        have h2 : lcF (psN s ow n) s ≠ -1 := fun w => q (Or.inr w)
        have h3 := pst_tot hs (psN_ok hs h n) h1 h2
        show tot (pst s (psN s ow n)) + ((n + 1 : Nat) : Int) ≤ tot ow
        unfold pst
        rw [if_pos ⟨h1, h2⟩]
        omega
def psE (s : Int) (ow : Fn) : Fn := psN s ow ((tot ow).toNat + 1)
theorem tot_nn {ow : Fn} (h : nn9 ow) : 0 ≤ tot ow := sI_nn (fun i a b => row_nn h ⟨a, b⟩)
theorem psE_stuck {s : Int} {ow : Fn} (hs : 0 ≤ s ∧ s < 9) (h : OkD ow) : pstuck s (psE s ow) := by
  rcases psN_tot hs h ((tot ow).toNat + 1) with q | q
  · exact q
  · have h1 := tot_nn h.1.1
    have h2 := tot_nn (psN_ok hs h ((tot ow).toNat + 1)).1.1
    omega
theorem psE_is {s : Int} {ow : Fn} {n : Nat} (hs : 0 ≤ s ∧ s < 9) (h : OkD ow) (hn : pstuck s (psN s ow n)) : psN s ow n = psE s ow := psN_det hn (psE_stuck hs h)
theorem psE_ok {s : Int} {ow : Fn} (hs : 0 ≤ s ∧ s < 9) (h : OkD ow) : OkD (psE s ow) := psN_ok hs h _
/-! the paying as a function -/
theorem pyN_stuck {fz : Fn} {s : Int} {x : Fn × Int} (h : pystuck fz s x) : pyS fz s x = x := by
  unfold pyS
  rw [if_neg (fun q => h.elim (fun w => w q.1) q.2)]
theorem pyN_fix {fz : Fn} {s : Int} {x : Fn × Int} {n : Nat} (h : pystuck fz s (pyN fz s x n)) : ∀ k : Nat, pyN fz s x (n + k) = pyN fz s x n
  | 0 => rfl
  | k + 1 => by
    show pyS fz s (pyN fz s x (n + k)) = _
    rw [pyN_fix h k, pyN_stuck h]
theorem pyN_det {fz : Fn} {s : Int} {x : Fn × Int} {n m : Nat} (h1 : pystuck fz s (pyN fz s x n)) (h2 : pystuck fz s (pyN fz s x m)) : pyN fz s x n = pyN fz s x m := by
  rcases Nat.le_total n m with q | q
  · rw [← pyN_fix h1 (m - n), show n + (m - n) = m by omega]
  · rw [← pyN_fix h2 (n - m), show m + (n - m) = n by omega]
theorem pyN_rest {fz : Fn} {s : Int} {x : Fn × Int} (hs : 0 ≤ s ∧ s < 8) (h : pyOk fz x) : ∀ n : Nat, pystuck fz s (pyN fz s x n) ∨ (pyN fz s x n).2 + n ≤ x.2
  | 0 => Or.inr (by show x.2 + 0 ≤ x.2; omega)
  | n + 1 => by
    by_cases q : pystuck fz s (pyN fz s x n)
    · exact Or.inl (by show pystuck fz s (pyS fz s (pyN fz s x n)); rw [pyN_stuck q]; exact q)
    · refine Or.inr ?_
      rcases pyN_rest hs h n with z | z
      · exact absurd z q
      · have h3 := (pyS_ok hs (pyN_ok hs h n)).2 q
        show (pyS fz s (pyN fz s x n)).2 + ((n + 1 : Nat) : Int) ≤ x.2
        omega
def pyE (fz : Fn) (s : Int) (x : Fn × Int) : Fn × Int := pyN fz s x x.2.toNat
theorem pyE_stuck {fz : Fn} {s : Int} {x : Fn × Int} (hs : 0 ≤ s ∧ s < 8) (h : pyOk fz x) : pystuck fz s (pyE fz s x) := by
  rcases pyN_rest hs h x.2.toNat with q | q
  · exact q
  · refine Or.inl ?_
    unfold pyE
    by_cases z : 0 ≤ x.2
    · omega
    · rw [show x.2.toNat = 0 by omega]
      show ¬ 0 < x.2
      omega
theorem pyE_is {fz : Fn} {s : Int} {x : Fn × Int} {n : Nat} (hs : 0 ≤ s ∧ s < 8) (h : pyOk fz x) (hn : pystuck fz s (pyN fz s x n)) : pyN fz s x n = pyE fz s x := pyN_det hn (pyE_stuck hs h)
/-! leaving -/
def rlF (s k : Int) (x : Fn × Fn × Int × Int) : Fn × Fn × Int × Int := (up (up x.1 (ix s k) 0) (ix k s) 0, up (up x.2.1 (ix s k) 0) (ix k s) 0, x.2.2.1 + (x.1 (ix s k) - x.1 (ix k s)), x.2.2.2 + (x.1 (ix s k) + x.1 (ix k s)))
def rlI (s : Int) (x : Fn × Fn × Int × Int) (n : Nat) : Fn × Fn × Int × Int := it (fun k => rlF s k) x n
def rlX (S : Mem) (s : Int) : Fn × Fn × Int × Int := rlI s ((lgO s (psE s (S 20), S 22, S 14) 9).1, (lgO s (psE s (S 20), S 22, S 14) 9).2.1, S 23 s, 0) 9
def stLeav (S : Mem) (s : Int) : Mem := mset (mput (mput (mput (thr S 0) 20 (rlX S s).1) 22 (rlX S s).2.1) 23 (up (S 23) s (rlX S s).2.2.1)) 19 s 0
/-! a night -/
def lazF (S : Mem) (ow : Fn) (s : Int) : Bool := decide (0 < bl ow s) && !anyI (fun t => isofR S s t && decide (S 18 14 - 4 ≤ S 27 t)) (S 18 7).toNat
def fyF (S : Mem) (s : Int) (ow : Fn) : Fn := if (decide (S 19 s = 1) && lazF S ow s) = true then (pyE (S 21) s (ow, (bl ow s * S 18 15).tdiv 1000)).1 else ow
def fyA (S : Mem) (ow : Fn) (n : Nat) : Fn := it (fun s => fyF S s) ow n
def nrR (S : Mem) (n : Nat) (S1 : Mem) : Prop := ∃ h h30 : Fn, (∀ k, -1 ≤ h k ∧ h k ≤ 8) ∧ S1 = mset (mput (mput (mput S 31 h) 30 h30) 20 (rgN (S 21) (S 20) n)) 18 16 n ∧ n ≤ 56 ∧ ∀ k : Nat, k < n → ∃ l : List Int, fnd (Gb (rgN (S 21) (S 20) k) (S 21)) = some l ∧ rowIs h30 k (lsR (rgN (S 21) (S 20) k) (S 21) l) l
/-- what a night makes of the memory -/
def ngR (S S' : Mem) : Prop := ∃ (n : Nat) (S1 : Mem), nrR S n S1 ∧ fnd (Gb (rgN (S 21) (S 20) n) (S 21)) = none ∧ S' = mset (mput S1 20 (fyA S1 (S1 20) (S 18 1).toNat)) 18 14 (S 18 14 + 1)
def ngN : Nat → Mem → Mem → Prop
  | 0, S, S' => S' = S
  | n + 1, S, S' => ∃ S1, ngN n S S1 ∧ ngR S1 S'
theorem livR_in {S : Mem} {s : Int} (h : livR S s = true) (hg : RgR S) : 0 ≤ s ∧ s < 8 ∧ s < S 18 1 ∧ S 19 s = 1 := by
  unfold livR at h
  simp only [Bool.and_eq_true, decide_eq_true_eq] at h
  have := hg.1
  omega
theorem wasR_in {S : Mem} {s : Int} (h : wasR S s = true) (hg : RgR S) : 0 ≤ s ∧ s < 8 := by
  unfold wasR at h
  simp only [decide_eq_true_eq] at h
  have := hg.1
  omega
theorem trR_in {S : Mem} {s : Int} (h : trR S s = true) (hg : RgR S) : 0 ≤ s ∧ s < 100 ∧ s < S 18 7 := by
  unfold trR at h
  simp only [decide_eq_true_eq] at h
  have := hg.2.1
  omega
