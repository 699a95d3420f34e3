/-! ===== kept by leaving ===== -/
theorem it_rel {α : Type} {F : Int → α → α} {R : α → α → Prop} (hF : ∀ (k : Int) (x y : α), R x y → R (F k x) (F k y)) {x y : α} (h : R x y) : ∀ n : Nat, R (it F x n) (it F y n)
  | 0 => h
  | n + 1 => hF n _ _ (it_rel hF h n)
def same2 (x y : Fn × Fn × Fn) : Prop := x.1 = y.1 ∧ x.2.1 = y.2.1
theorem lgF_same {s c g : Int} {x y : Fn × Fn × Fn} (h : same2 x y) : same2 (lgF s c g x) (lgF s c g y) := by
  obtain ⟨h1, h2⟩ := h
  unfold lgF
  refine ⟨?_, ?_⟩
  · show tkF _ _ _ _ _ = tkF _ _ _ _ _
    rw [h1, h2]
  · show adF _ _ _ _ = adF _ _ _ _
    rw [h1, h2]
theorem lgO_same {s : Int} {x y : Fn × Fn × Fn} (h : same2 x y) (n : Nat) : same2 (lgO s x n) (lgO s y n) :=
  it_rel (F := fun c x => lgI s c x 8) (R := same2) (fun c a b q => it_rel (F := fun g => lgF s c g) (R := same2) (fun g a b q => lgF_same q) q 8) h n
theorem rlX_same {S S1 : Mem} {s : Int} (c20 : S1 20 = S 20) (c22 : S1 22 = S 22) (c23 : S1 23 = S 23) : rlX S1 s = rlX S s := by
  have e := lgO_same (s := s) (x := (psE s (S 20), S 22, S1 14)) (y := (psE s (S 20), S 22, S 14)) ⟨rfl, rfl⟩ 9
  unfold rlX
  rw [c20, c22, c23, e.1, e.2]
/-! the balances are told by what was given up -/
theorem psF_bl {s d c z : Int} {f : Fn} (hs : 0 ≤ s ∧ s < 9) (hd : 0 ≤ d ∧ d < 9) (hc : 0 ≤ c ∧ c < 9) (hz : 0 ≤ z ∧ z < 9) : bl (psF s d c f) z = bl f z := by
  unfold psF tkF
  generalize mn (f (ix d s)) (f (ix s c)) = m
  split
  · rename_i q
    rw [bl_adF hs hc hz, bl_adF hd hs hz, q]
    split <;> split <;> omega
  · rw [bl_adF hd hc hz, bl_adF hs hc hz, bl_adF hd hs hz]
    split <;> split <;> split <;> omega
theorem psO_bl {s z : Int} {f : Fn} (hs : 0 ≤ s ∧ s < 9) (hz : 0 ≤ z ∧ z < 9) : bl (psO s f 8) z = bl f z :=
  it_inv (P := fun y : Fn => bl y z = bl f z) rfl (fun d y d0 d8 hy => it_inv (P := fun y : Fn => bl y z = bl f z) hy (fun c y c0 c9 hy => by rw [psF_bl hs (by omega) (by omega) hz]; exact hy))
theorem tkF_bl {g s c z m : Int} {f : Fn} (hg : 0 ≤ g ∧ g < 9) (hs : 0 ≤ s ∧ s < 9) (hc : 0 ≤ c ∧ c < 9) (hz : 0 ≤ z ∧ z < 9) : bl (tkF f g s c m) z = bl f z + (if z = s then m else 0) - if z = g then m else 0 := by
  unfold tkF
  split
  · rename_i q
    rw [bl_adF hs hc hz, q]
    split <;> split <;> omega
  · rw [bl_adF hg hc hz, bl_adF hs hc hz]
    split <;> split <;> split <;> omega
theorem lgO_bl {s z K : Int} {x : Fn × Fn × Fn} (hs : 0 ≤ s ∧ s < 9) (hz : 0 ≤ z ∧ z < 9) (h : bl x.1 z - bl x.2.2 z = K) : bl (lgO s x 9).1 z - bl (lgO s x 9).2.2 z = K :=
  it_inv (P := fun y : Fn × Fn × Fn => bl y.1 z - bl y.2.2 z = K) h (fun c y c0 c9 hy => it_inv (P := fun y : Fn × Fn × Fn => bl y.1 z - bl y.2.2 z = K) hy (fun g y g0 g8 hy => by
    show bl (tkF y.1 g s c _) z - bl (adF y.2.2 g s _) z = K
    rw [tkF_bl (by omega) hs (by omega) hz, bl_adF (by omega) hs hz]
    omega))
theorem gbI_bl {s z K : Int} {x : Fn × Fn × Int} (hs : 0 ≤ s ∧ s < 9) (hz : 0 ≤ z ∧ z < 9) (h : bl x.1 z - bl x.2.1 z = K) : bl (gbI s x 9).1 z - bl (gbI s x 9).2.1 z = K :=
  it_inv (P := fun y : Fn × Fn × Int => bl y.1 z - bl y.2.1 z = K) h (fun c y c0 c9 hy => by
    show bl (adF y.1 s c _) z - bl (adF y.2.1 c s _) z = K
    rw [bl_adF hs (by omega) hz, bl_adF (by omega) hs hz]
    split <;> split <;> omega)
theorem gtI_bl {s z K : Int} {x : Fn × Fn × Int} (hs : 0 ≤ s ∧ s < 9) (hz : 0 ≤ z ∧ z < 9) (h : bl x.1 z - bl x.2.1 z = K) : bl (gtI s x 8).1 z - bl (gtI s x 8).2.1 z = K :=
  it_inv (P := fun y : Fn × Fn × Int => bl y.1 z - bl y.2.1 z = K) h (fun c y c0 c9 hy => by
    show bl (adF y.1 c s _) z - bl (adF y.2.1 s c _) z = K
    rw [bl_adF hs (by omega) hz, bl_adF (by omega) hs hz]
    split <;> split <;> omega)
theorem lvE_bl {S : Mem} {s z : Int} (hs : 0 ≤ s ∧ s < 9) (hz : 0 ≤ z ∧ z < 9) : bl (lvE S s 8) z - bl (lvE S s 14) z = bl (S 8) z - bl (S 14) z := by
  have a : bl (lvA S s 8) z - bl (lvA S s 14) z = bl (S 8) z - bl (S 14) z := lgO_bl hs hz (by
    show bl (psO s (S 8) 8) z - bl (S 14) z = _
    rw [psO_bl hs hz])
  have b : bl (lvC S s 8) z - bl (lvC S s 14) z = bl (S 8) z - bl (S 14) z := gbI_bl hs hz a
  exact gtI_bl hs hz b
/-! what passing on and the guarantors leave as it was -/
def lvJ (S : Mem) (s : Int) (f : Fn) : Prop := OkD f ∧ tot f ≤ tot (S 20) ∧ (∀ i j : Int, 0 ≤ i → i < 9 → 0 ≤ j → j < 9 → i ≠ s → j ≠ s → S 20 (ix i j) ≤ f (ix i j)) ∧ Dz8 S f
def lvK (S : Mem) (u : Fn) : Prop := dz u ∧ (∀ k : Int, 0 ≤ k → k < 9 → u (ix 8 k) = 0 ∧ u (ix k 8) = 0) ∧ Dz S u ∧ ∀ i j : Int, 0 ≤ i → i < 9 → 0 ≤ j → j < 9 → 0 ≤ u (ix i j) ∧ u (ix i j) ≤ 1000
theorem psF_J {S : Mem} {s d c : Int} {f : Fn} (hl : livR S s = true) (hs : 0 ≤ s ∧ s < 8) (hd : 0 ≤ d ∧ d < 8) (hc : 0 ≤ c ∧ c < 9) (h : lvJ S s f) : lvJ S s (psF s d c f) := by
  obtain ⟨h1, h2, h3, h4⟩ := h
  have hs9 : 0 ≤ s ∧ s < 9 := by omega
  have e1 := h1.1.ent (i := d) (j := s) (by omega) hs9
  have e2 := h1.1.ent (i := s) (j := c) hs9 hc
  have hm := mn_le (f (ix d s)) (f (ix s c))
  have hg : ∀ a b : Int, 0 ≤ b → b < 9 → psF s d c f (ix a b) = f (ix a b) + (if a = d ∧ b = s then -(mn (f (ix d s)) (f (ix s c))) else 0) + (if a = s ∧ b = c then -(mn (f (ix d s)) (f (ix s c))) else 0) + (if d ≠ c ∧ a = d ∧ b = c then mn (f (ix d s)) (f (ix s c)) else 0) := fun a b b0 b9 => psF_get hs9 hc ⟨b0, b9⟩
  refine ⟨psF_ok hs9 (by omega) hc h1, ?_, fun i j i0 i9 j0 j9 hi hj => ?_, fun z z0 z8 hz k k0 k9 => ?_, psF_r8 hs hd hc h4.2⟩
  · unfold psF
    rw [tkF_tot (by omega) hs9 hc, tot_adF (by omega) hs9]
    split <;> omega
  · have := h3 i j i0 i9 j0 j9 hi hj
    rw [hg i j j0 j9, if_neg (by omega), if_neg (by omega)]
    split <;> omega
  · have hzs : z ≠ s := fun q => by rw [q, hl] at hz; exact absurd hz (by decide)
    have d1 := h4.1 z z0 z8 hz k k0 k9
    have d2 := h4.1 z z0 z8 hz s hs.1 hs9.2
    have m0 : d = z ∨ c = z → mn (f (ix d s)) (f (ix s c)) = 0 := by
      rintro (q | q)
      · rw [q] at hm e1 ⊢; omega
      · rw [q] at hm e2 ⊢; omega
    rw [hg k z z0 (by omega), hg z k k0 k9, d1.1, d1.2]
    generalize mn (f (ix d s)) (f (ix s c)) = m at m0
    constructor
    · rw [if_neg (by omega)]
      split <;> split <;> omega
    · rw [if_neg (show ¬ (z = s ∧ k = c) by omega)]
      split <;> split <;> omega
theorem lgF_J {S : Mem} {s c g : Int} {x : Fn × Fn × Fn} (hl : livR S s = true) (hs : 0 ≤ s ∧ s < 8) (hg : 0 ≤ g ∧ g < 8) (hc : 0 ≤ c ∧ c < 9) (hok : lgOk x) (h : lvJ S s x.1) (hk : lvK S x.2.1) : lvJ S s (lgF s c g x).1 ∧ lvK S (lgF s c g x).2.1 := by
  obtain ⟨h1, h2, h3, h4⟩ := h
  obtain ⟨k1, k2, k3, k4⟩ := hk
  have hs9 : 0 ≤ s ∧ s < 9 := by omega
  have hg9 : 0 ≤ g ∧ g < 9 := by omega
  have e1 := k4 g s hg9.1 hg9.2 hs9.1 hs9.2
  have e2 := h1.1.ent (i := s) (j := c) hs9 hc
  have hm := mn_le (x.1 (ix s c)) (x.2.1 (ix g s))
  have hok2 := lgF_ok hs9 hc hg9 hok
  have get : ∀ a b : Int, 0 ≤ b → b < 9 → (lgF s c g x).1 (ix a b) = x.1 (ix a b) + (if a = s ∧ b = c then -(mn (x.1 (ix s c)) (x.2.1 (ix g s))) else 0) + (if g ≠ c ∧ a = g ∧ b = c then mn (x.1 (ix s c)) (x.2.1 (ix g s)) else 0) := fun a b b0 b9 => tkF_get hc ⟨b0, b9⟩
  have get2 : ∀ a b : Int, 0 ≤ b → b < 9 → (lgF s c g x).2.1 (ix a b) = x.2.1 (ix a b) + (if a = g ∧ b = s then -(mn (x.1 (ix s c)) (x.2.1 (ix g s))) else 0) := fun a b b0 b9 => adF_get hs9 ⟨b0, b9⟩
  have m0 : ∀ z : Int, 0 ≤ z → z < 8 → livR S z = false → g = z ∨ c = z → mn (x.1 (ix s c)) (x.2.1 (ix g s)) = 0 := by
    intro z z0 z8 hz
    have d2 := h4.1 z z0 z8 hz s hs.1 hs9.2
    have d3 := k3 z z0 z8 hz s hs.1 hs9.2
    rintro (q | q)
    · rw [q] at hm e1 ⊢; omega
    · rw [q] at hm e2 ⊢; omega
  refine ⟨⟨hok2.1, ?_, fun i j i0 i9 j0 j9 hi hj => ?_, fun z z0 z8 hz k k0 k9 => ?_, lgF_r8 hs hg hc h4.2⟩, hok2.2.2, fun k k0 k9 => ?_, fun z z0 z8 hz k k0 k9 => ?_, fun i j i0 i9 j0 j9 => ?_⟩
  · show tot (tkF x.1 g s c _) ≤ _
    rw [tkF_tot hg9 hs9 hc]
    split <;> omega
  · have := h3 i j i0 i9 j0 j9 hi hj
    rw [get i j j0 j9, if_neg (by omega)]
    split <;> omega
  · have hzs : z ≠ s := fun q => by rw [q, hl] at hz; exact absurd hz (by decide)
    have d1 := h4.1 z z0 z8 hz k k0 k9
    have m1 := m0 z z0 z8 hz
    rw [get k z z0 (by omega), get z k k0 k9, d1.1, d1.2]
    generalize mn (x.1 (ix s c)) (x.2.1 (ix g s)) = m at m1
    constructor
    · split <;> split <;> omega
    · rw [if_neg (show ¬ (z = s ∧ k = c) by omega)]
      split <;> omega
  · have := k2 k k0 k9
    rw [get2 8 k k0 k9, get2 k 8 (by omega) (by omega), if_neg (by omega), if_neg (by omega), this.1, this.2]
    exact ⟨rfl, rfl⟩
  · have hzs : z ≠ s := fun q => by rw [q, hl] at hz; exact absurd hz (by decide)
    have d1 := k3 z z0 z8 hz k k0 k9
    have m1 := m0 z z0 z8 hz
    rw [get2 k z z0 (by omega), get2 z k k0 k9, d1.1, d1.2]
    generalize mn (x.1 (ix s c)) (x.2.1 (ix g s)) = m at m1
    constructor
    · rw [if_neg (by omega)]; rfl
    · split <;> omega
  · have := k4 i j i0 i9 j0 j9
    rw [get2 i j j0 j9]
    split
    · rename_i q
      rw [q.1, q.2] at this ⊢
      omega
    · omega
theorem lvP_J {S : Mem} {s : Int} (h : Iv S) (hl : livR S s = true) : lvJ S s (lvP S s).1 ∧ lvK S (lvP S s).2.1 := by
  have hi := livR_in hl h.2.1
  have hs : 0 ≤ s ∧ s < 8 := by omega
  have hok := Iv_ok h
  have hG := h.2.2.2.2.2.1
  have e0 : lvJ S s (psE s (S 20)) := by
    rw [← psO_is (by omega) hok]
    exact it_inv (P := lvJ S s) ⟨hok, Int.le_refl _, fun i j _ _ _ _ _ _ => Int.le_refl _, h.2.2.2.2.1⟩ (fun d y d0 d8 hy => it_inv (P := lvJ S s) hy (fun c z c0 c9 hz => psF_J hl hs (by omega) (by omega) hz))
  have e1 : lgOk (lvP S s) ∧ lvJ S s (lvP S s).1 ∧ lvK S (lvP S s).2.1 := it_inv (P := fun y : Fn × Fn × Fn => lgOk y ∧ lvJ S s y.1 ∧ lvK S y.2.1) ⟨⟨e0.1, Iv_okg h⟩, e0, hG.1, (fun k k0 k9 => hG.2.1 k k0 k9), hG.2.2.1, hG.2.2.2⟩ (fun c y c0 c9 hy => it_inv (P := fun y : Fn × Fn × Fn => lgOk y ∧ lvJ S s y.1 ∧ lvK S y.2.1) hy (fun g z g0 g8 hz => by
    have a := lgF_J (c := c) (g := g) hl hs (by omega) (by omega) hz.1 hz.2.1 hz.2.2
    exact ⟨lgF_ok (by omega) (by omega) (by omega) hz.1, a.1, a.2⟩))
  exact e1.2
theorem wpF_get {s i j : Int} {f : Fn} (hs : 0 ≤ s ∧ s < 9) (hi : 0 ≤ i ∧ i < 9) (hj : 0 ≤ j ∧ j < 9) : wpF s 9 9 f (ix i j) = if i = s ∨ j = s then 0 else f (ix i j) := by
  unfold wpF ix
  by_cases q : i = s ∨ j = s
  · rw [if_pos q, if_pos (by omega)]
  · rw [if_neg q, if_neg (by omega)]
theorem wpF_tot {s : Int} {f : Fn} (hs : 0 ≤ s ∧ s < 9) (h : nn9 f) : tot (wpF s 9 9 f) ≤ tot f := sI_mono (fun i i0 i9 => sI_mono (fun j j0 j9 => by
  show wpF s 9 9 f (ix i j) ≤ f (ix i j)
  have := h i j i0 (by omega) j0 (by omega)
  rw [wpF_get hs (by omega) (by omega)]
  split <;> omega))
theorem rlX_is {S : Mem} {s : Int} (hs : 0 ≤ s ∧ s < 9) : (rlX S s).1 = wpF s 9 9 (lvP S s).1 ∧ (rlX S s).2.1 = wpF s 9 9 (lvP S s).2.1 := by
  have r := rlI_is (s := s) (f := (lvP S s).1) (u := (lvP S s).2.1) (g0 := S 23 s) hs 9 (by omega)
  exact ⟨r.1, r.2.1⟩
theorem anyI_nay {p : Int → Bool} {n : Nat} (h : anyI p n = false) {t : Int} (t0 : 0 ≤ t) (t1 : t < n) : p t = false := by
  cases q : p t with
  | false => rfl
  | true =>
    have := anyI_yes (p := p) (i := t.toNat) (by rw [show ((t.toNat : Nat) : Int) = t by omega]; exact q) (n := n) (by omega)
    rw [h] at this
    exact absurd this (by decide)
section
variable {S T : Mem}
theorem Iv_leave (h : Iv S) {s : Int} (hl : livR S s = true) (hnd : anyI (fun t => isofR S s t && decide (S 28 t = 1)) (S 18 7).toNat = false) (eo : ∀ o : Nat, o < 32 → o ≠ 2 → o ≠ 8 → o ≠ 12 → o ≠ 14 → o ≠ 18 → o ≠ 19 → o ≠ 20 → o ≠ 22 → o ≠ 23 → T o = S o)
    (c8 : T 8 = lvE S s 8) (c12 : T 12 = wpF s 9 9 (lvE S s 12)) (c14 : T 14 = lvE S s 14) (c20 : T 20 = (rlX S s).1) (c22 : T 22 = (rlX S s).2.1) (c23 : T 23 = up (S 23) s (rlX S s).2.2.1) (c19 : T 19 = up (S 19) s 0)
    (e20 : tg 8 2 (T 2) s 0 = 1) (e21 : tg 8 2 (T 2) s 1 = (lvB S s).2.2 - (lvD S s).2.2) (e2 : ∀ z w : Int, z ≠ s → tg 8 2 (T 2) z w = tg 8 2 (S 2) z w) (e18 : ∀ i : Int, i ≠ 0 → T 18 i = S 18 i) : Iv T := by
  have hi := livR_in hl h.2.1
  have hs : 0 ≤ s ∧ s < 8 := by omega
  have hs9 : 0 ≤ s ∧ s < 9 := by omega
  have hok := Iv_ok h
  obtain ⟨⟨J1, J2, J3, J4⟩, K1, K2, K3, K4⟩ := lvP_J h hl
  have hg0 : S 23 s = 0 := (h.2.2.2.2.2.2.2.2.1 s hs.1 hs.2).1 (Or.inl hi.2.2.2)
  have hX := rlX_is (S := S) hs9
  obtain ⟨L1, L2, L3, L4⟩ := leave_is h.1 hs hok (Iv_okg h) h.2.2.2.2.1.2 hg0
  have hbl := fun z (hz : 0 ≤ z ∧ z < 9) => lvE_bl (S := S) (s := s) (z := z) hs9 hz
  have hr23 : -2000000 ≤ (rlX S s).2.2.1 ∧ (rlX S s).2.2.1 ≤ 2000000 := by
    have e := rlI_ok (s := s) (x := ((lvP S s).1, (lvP S s).2.1, S 23 s, 0)) hs9 ⟨fun i j i0 i9 j0 j9 => J1.1.ent ⟨i0, i9⟩ ⟨j0, j9⟩, by show _ ≤ S 23 s; omega, by show S 23 s ≤ _; omega, by show (0 : Int) ≤ 0; omega, by show (0 : Int) ≤ _; omega⟩ 9 (by omega)
    have e1 : -(200000 * ((9 : Nat) : Int)) ≤ (rlX S s).2.2.1 := e.2.1
    have e2 : (rlX S s).2.2.1 ≤ 200000 * ((9 : Nat) : Int) := e.2.2.1
    omega
  obtain ⟨⟨r1, r2, r3, r4, r5, r6, r7, r8, rT, rR, rS⟩, ⟨g1, g2, g3, g4, g5, g6, g7⟩, ⟨o1, o2, o3⟩, ⟨hF1, hF2⟩, hD, hG, hT, hP, hS, hB, hU, hC, hW, hR⟩ := h
  have c0 := eo 0 (by decide) (by decide) (by decide) (by decide) (by decide) (by decide) (by decide) (by decide) (by decide) (by decide)
  have c3 := eo 3 (by decide) (by decide) (by decide) (by decide) (by decide) (by decide) (by decide) (by decide) (by decide) (by decide)
  have c5 := eo 5 (by decide) (by decide) (by decide) (by decide) (by decide) (by decide) (by decide) (by decide) (by decide) (by decide)
  have c10 := eo 10 (by decide) (by decide) (by decide) (by decide) (by decide) (by decide) (by decide) (by decide) (by decide) (by decide)
  have c15 := eo 15 (by decide) (by decide) (by decide) (by decide) (by decide) (by decide) (by decide) (by decide) (by decide) (by decide)
  have c17 := eo 17 (by decide) (by decide) (by decide) (by decide) (by decide) (by decide) (by decide) (by decide) (by decide) (by decide)
  have c21 := eo 21 (by decide) (by decide) (by decide) (by decide) (by decide) (by decide) (by decide) (by decide) (by decide) (by decide)
  have c24 := eo 24 (by decide) (by decide) (by decide) (by decide) (by decide) (by decide) (by decide) (by decide) (by decide) (by decide)
  have c25 := eo 25 (by decide) (by decide) (by decide) (by decide) (by decide) (by decide) (by decide) (by decide) (by decide) (by decide)
  have c26 := eo 26 (by decide) (by decide) (by decide) (by decide) (by decide) (by decide) (by decide) (by decide) (by decide) (by decide)
  have c27 := eo 27 (by decide) (by decide) (by decide) (by decide) (by decide) (by decide) (by decide) (by decide) (by decide) (by decide)
  have c28 := eo 28 (by decide) (by decide) (by decide) (by decide) (by decide) (by decide) (by decide) (by decide) (by decide) (by decide)
  have c29 := eo 29 (by decide) (by decide) (by decide) (by decide) (by decide) (by decide) (by decide) (by decide) (by decide) (by decide)
  have c30 := eo 30 (by decide) (by decide) (by decide) (by decide) (by decide) (by decide) (by decide) (by decide) (by decide) (by decide)
  have c31 := eo 31 (by decide) (by decide) (by decide) (by decide) (by decide) (by decide) (by decide) (by decide) (by decide) (by decide)
  have f1 := e18 1 (by decide)
  have f7 := e18 7 (by decide)
  have f14 := e18 14 (by decide)
  have f15 := e18 15 (by decide)
  have f16 := e18 16 (by decide)
  have c3' : T 3 1 = S 3 1 := by rw [c3]
  have c151 : T 15 1 = S 15 1 := by rw [c15]
  have c06 : T 0 6 = S 0 6 := by rw [c0]
  have nd : ∀ t : Int, 0 ≤ t → t < S 18 7 → S 28 t = 1 → S 24 t ≠ s ∧ S 25 t ≠ s := fun t t0 t1 q => by
    have := anyI_nay hnd (t := t) t0 (by omega)
    unfold isofR at this
    simp only [q, decide_true, Bool.and_true, Bool.or_eq_false_iff, decide_eq_false_iff_not] at this
    exact this
  have fz0 : ∀ i j : Int, 0 ≤ i → i < 9 → 0 ≤ j → j < 9 → i = s ∨ j = s → S 21 (ix i j) = 0 := fun i j i0 i9 j0 j9 q => by
    rw [hF2 i j i0 i9 j0 j9]
    refine sI_zero (fun t t0 t1 => ?_)
    show (if S 28 t = 1 ∧ S 24 t = i ∧ S 25 t = j then S 29 t else (0 : Int)) = 0
    refine if_neg (fun z => ?_)
    have := nd t t0 (by omega) z.1
    omega
  have lvs : ∀ z : Int, z ≠ s → livR T z = livR S z := fun z q => by
    unfold livR
    rw [f1, c19, up_ne q]
  have get : ∀ i j : Int, 0 ≤ i → i < 9 → 0 ≤ j → j < 9 → T 20 (ix i j) = if i = s ∨ j = s then 0 else (lvP S s).1 (ix i j) := fun i j i0 i9 j0 j9 => by
    rw [c20, hX.1]; exact wpF_get hs9 ⟨i0, i9⟩ ⟨j0, j9⟩
  have get2 : ∀ i j : Int, 0 ≤ i → i < 9 → 0 ≤ j → j < 9 → T 22 (ix i j) = if i = s ∨ j = s then 0 else (lvP S s).2.1 (ix i j) := fun i j i0 i9 j0 j9 => by
    rw [c22, hX.2]; exact wpF_get hs9 ⟨i0, i9⟩ ⟨j0, j9⟩
  refine ⟨⟨by rw [c8, c20, L1], by rw [c10, c21]; exact r2, by rw [c12, c22, L2], by rw [c0, f1]; exact r4, by rw [c0, f14]; exact r5, by rw [c0, f15]; exact r6, by rw [c3, f7]; exact r7, by rw [c15, f16]; exact r8, fr_RelT c5 c3' c24 c25 c26 c27 c28 c29 rT, fr_RelR c17 c151 c30 rR, fun z z0 z1 => ?_⟩, ⟨by omega, by omega, by omega, by omega, by omega, fun i => ?_, by rw [c24, c25, c26, c27, c28, c29]; exact g7⟩, ⟨fun i j i0 i9 j0 j9 => ?_, fun i i0 i9 => ?_, ?_⟩, ⟨fun i j i0 i9 j0 j9 => ?_, fun x y x0 x9 y0 y9 => ?_⟩, ⟨fun z z0 z8 hz k k0 k9 => ?_, fun k k0 k9 => ?_⟩, ⟨fun i i0 i9 => ?_, fun k k0 k9 => ?_, fun z z0 z8 hz k k0 k9 => ?_, fun i j i0 i9 j0 j9 => ?_⟩, fun t t0 t1 => ?_, fr_IvP c5 f7 c29 hP, fun z z0 z8 => ?_, fun x x0 x9 => ?_, fun z z0 z8 => ?_, ⟨fun i => ?_, by unfold trd; rw [c5]; exact hC.2⟩, fr_IvW c31 hW, fr_IvR c30 f16 hR⟩
  · rw [c06] at z1
    rw [c19, c23]
    by_cases q : z = s
    · rw [q, e20, e21, up_same, up_same, L4]
      exact ⟨⟨fun w => absurd w (by decide), fun w => absurd w (by decide)⟩, rfl⟩
    · rw [e2 z 0 q, e2 z 1 q, up_ne q, up_ne q]
      exact rS z z0 z1
  · rw [c19]
    have := g6 i
    unfold up
    split <;> omega
  · have := J1.1.1 i j i0 i9 j0 j9
    rw [get i j i0 i9 j0 j9]
    split <;> omega
  · have := J1.2 i i0 i9
    rw [get i i i0 i9 i0 i9]
    split <;> omega
  · rw [c20, hX.1, c28, f7]
    have := wpF_tot (s := s) hs9 J1.1.1
    omega
  · rw [c21, get i j i0 i9 j0 j9]
    have e1 := hF1 i j i0 i9 j0 j9
    split
    · rename_i q
      rw [fz0 i j i0 i9 j0 j9 q]; omega
    · rename_i q
      have := J3 i j i0 i9 j0 j9 (fun w => q (Or.inl w)) (fun w => q (Or.inr w))
      omega
  · rw [c21, c28, c24, c25, c29, f7]
    exact hF2 x y x0 x9 y0 y9
  · rw [get k z k0 k9 z0 (by omega), get z k z0 (by omega) k0 k9]
    by_cases q : z = s
    · rw [if_pos (Or.inr q), if_pos (Or.inl q)]
      exact ⟨rfl, rfl⟩
    · rw [lvs z q] at hz
      have := J4.1 z z0 z8 hz k k0 k9
      rw [this.1, this.2]
      constructor
      · split <;> rfl
      · split <;> rfl
  · rw [get 8 k (by omega) (by omega) k0 k9, J4.2 k k0 k9]
    split <;> rfl
  · have := K1 i i0 i9
    rw [get2 i i i0 i9 i0 i9]
    split <;> omega
  · have := K2 k k0 k9
    rw [get2 8 k (by omega) (by omega) k0 k9, get2 k 8 k0 k9 (by omega) (by omega), this.1, this.2]
    constructor
    · split <;> rfl
    · split <;> rfl
  · rw [get2 k z k0 k9 z0 (by omega), get2 z k z0 (by omega) k0 k9]
    by_cases q : z = s
    · rw [if_pos (Or.inr q), if_pos (Or.inl q)]
      exact ⟨rfl, rfl⟩
    · rw [lvs z q] at hz
      have := K3 z z0 z8 hz k k0 k9
      rw [this.1, this.2]
      constructor
      · split <;> rfl
      · split <;> rfl
  · have := K4 i j i0 i9 j0 j9
    rw [get2 i j i0 i9 j0 j9]
    split <;> omega
  · rw [f7] at t1
    rw [c24, c25, c26, c28, c29, f1]
    obtain ⟨a1, a2, a3, a4, a5⟩ := hT t t0 t1
    refine ⟨a1, a2, a3, fun q => ?_, a5⟩
    have hn := nd t t0 t1 q
    rw [lvs _ hn.1, lvs _ hn.2]
    exact a4 q
  · rw [c19, c23, f1]
    have := hS z z0 z8
    by_cases q : z = s
    · rw [q, up_same, up_same]
      exact ⟨fun w => by omega, hr23⟩
    · rw [up_ne q, up_ne q]
      exact this
  · have e1 := hbl x ⟨x0, x9⟩
    have e2 := hB x x0 x9
    rw [c28, c24, c25, c26, f7, c14, c20, ← L1]
    rw [r1] at e1
    omega
  · rw [f1] at z0
    rw [e2 z 0 (by omega), e2 z 1 (by omega)]
    exact hU z z0 z8
  · by_cases q : i = s
    · rw [q, e20]; omega
    · rw [e2 i 0 q]
      exact hC.1 i
end
