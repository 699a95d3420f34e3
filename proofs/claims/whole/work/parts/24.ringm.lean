/-! ===== rings: paths as lists, the last shop first ===== -/
def rix (c k : Int) : Int := 7 * c + k
theorem tg_rix {f : Fn} {c k : Int} (hc : 0 ≤ c ∧ c < 57) (hk : 0 ≤ k ∧ k < 7) : tg 57 7 f c k = f (rix c k) := by
  unfold tg rix
  rw [if_pos (by omega), Int.mul_comm]
theorem ts_rix {S : Mem} {a : Nat} {c k v : Int} (hc : 0 ≤ c ∧ c < 57) (hk : 0 ≤ k ∧ k < 7) : ts S a 57 7 c k v = mput S a (up (S a) (rix c k) v) := by
  unfold ts
  rw [if_pos (by omega), mset_mput]
  unfold rix
  rw [Int.mul_comm]
def pl (f : Fn) : Nat → List Int
  | 0 => []
  | n + 1 => f n :: pl f n
theorem pl_cong {f g : Fn} : ∀ {n : Nat}, (∀ k : Int, 0 ≤ k → k < n → f k = g k) → pl f n = pl g n
  | 0, _ => rfl
  | n + 1, h => by rw [pl, pl, h n (by omega) (by omega), pl_cong (n := n) (fun k a b => h k a (by omega))]
theorem pl_len (f : Fn) : ∀ n : Nat, (pl f n).length = n
  | 0 => rfl
  | n + 1 => by rw [pl, List.length_cons, pl_len f n]
theorem pl_has (f : Fn) (y : Int) : ∀ n : Nat, (pl f n).contains y = anyI (fun k => decide (f k = y)) n
  | 0 => rfl
  | n + 1 => by
    rw [pl, anyI, ← pl_has f y n, List.contains_cons, Bool.or_comm]
    congr 1
    by_cases h : f n = y
    · subst h; simp
    · rw [decide_eq_false h, beq_eq_false_iff_ne]; exact fun q => h q.symm
def scan {α : Type} (F : Int → Option α) (a : Int) : Nat → Option α
  | 0 => none
  | n + 1 => match F a with
    | some x => some x
    | none => scan F (a + 1) n
theorem scan_none {α : Type} {F : Int → Option α} {a : Int} {n : Nat} (h : F a = none) : scan F a (n + 1) = scan F (a + 1) n := by
  rw [scan, h]
theorem scan_some {α : Type} {F : Int → Option α} {a : Int} {n : Nat} {x : α} (h : F a = some x) : scan F a (n + 1) = some x := by
  rw [scan, h]
theorem scan_cong {α : Type} {F F2 : Int → Option α} : ∀ {n : Nat} {a : Int}, (∀ k : Int, a ≤ k → k < a + n → F k = F2 k) → scan F a n = scan F2 a n
  | 0, _, _ => rfl
  | n + 1, a, h => by rw [scan, scan, h a (by omega) (by omega), scan_cong (n := n) (a := a + 1) (fun k h1 h2 => h k (by omega) (by omega))]
theorem scan_is {α : Type} {F : Int → Option α} {x : α} : ∀ {n : Nat} {a : Int}, scan F a n = some x → ∃ k : Int, a ≤ k ∧ k < a + n ∧ F k = some x
  | 0, _, h => by cases h
  | n + 1, a, h => by
    rw [scan] at h
    cases hF : F a with
    | some y => rw [hF] at h; cases h; exact ⟨a, by omega, by omega, hF⟩
    | none =>
      rw [hF] at h
      obtain ⟨k, h1, h2, h3⟩ := scan_is (n := n) (a := a + 1) h
      exact ⟨k, by omega, by omega, h3⟩
/-- the first way to make the path l, begun at a, a ring with so many shops more -/
def dfs (G : Int → Int → Bool) (a : Int) : Nat → List Int → Option (List Int)
  | 0, l => if G (l.headD 0) a = true then some l else none
  | r + 1, l => scan (fun y => if (G (l.headD 0) y && !l.contains y) = true then dfs G a r (y :: l) else none) (a + 1) (7 - a).toNat
def fnd (G : Int → Int → Bool) : Option (List Int) := scan (fun z => scan (fun a => dfs G a (z - 1).toNat [a]) 0 8) 2 4
def Gb (ow fz : Fn) (i j : Int) : Bool := decide (0 < ow (ix i j) - fz (ix i j))
/-- a path that may become a ring -/
def VP (G : Int → Int → Bool) (a : Int) : List Int → Prop
  | [] => False
  | [x] => x = a ∧ 0 ≤ x ∧ x < 8
  | x :: y :: t => G y x = true ∧ (y :: t).contains x = false ∧ a < x ∧ x < 8 ∧ VP G a (y :: t)
theorem VP_a {G : Int → Int → Bool} {a : Int} : ∀ {l : List Int}, VP G a l → l.getLastD 0 = a ∧ 0 ≤ a ∧ a < 8
  | [], h => h.elim
  | [y], h => by
    obtain ⟨h1, h2, h3⟩ := h
    subst h1
    exact ⟨rfl, h2, h3⟩
  | y :: z :: t, h => by
    have := VP_a h.2.2.2.2
    exact ⟨by rw [← this.1]; rfl, this.2⟩
theorem VP_in {G : Int → Int → Bool} {a : Int} : ∀ {l : List Int}, VP G a l → ∀ x ∈ l, a ≤ x ∧ 0 ≤ x ∧ x < 8
  | [], h, _, _ => h.elim
  | [y], h, x, hx => by
    obtain ⟨h1, h2, h3⟩ := h
    rw [List.mem_singleton.mp hx]
    omega
  | y :: z :: t, h, x, hx => by
    obtain ⟨h1, h2, h3, h4, h5⟩ := h
    have h6 := VP_a h5
    rcases List.mem_cons.mp hx with rfl | q
    · omega
    · exact VP_in h5 x q
theorem VP_ne {G : Int → Int → Bool} {a : Int} {l : List Int} (h : VP G a l) : ∃ x t, l = x :: t := by
  cases l with
  | nil => exact h.elim
  | cons x t => exact ⟨x, t, rfl⟩
theorem VP_cons {G : Int → Int → Bool} {a y : Int} {l : List Int} (h : VP G a l) (h1 : G (l.headD 0) y = true) (h2 : l.contains y = false) (h3 : a < y) (h4 : y < 8) : VP G a (y :: l) := by
  obtain ⟨x, t, rfl⟩ := VP_ne h
  exact ⟨h1, h2, h3, h4, h⟩
theorem dfs_is {G : Int → Int → Bool} {a : Int} : ∀ {r : Nat} {l m : List Int}, VP G a l → dfs G a r l = some m → VP G a m ∧ G (m.headD 0) a = true ∧ m.length = l.length + r
  | 0, l, m, hv, h => by
    rw [dfs] at h
    split at h
    · rename_i q
      cases h
      exact ⟨hv, q, rfl⟩
    · cases h
  | r + 1, l, m, hv, h => by
    rw [dfs] at h
    obtain ⟨k, h1, h2, h3⟩ := scan_is h
    split at h3
    · rename_i q
      simp only [Bool.and_eq_true, Bool.not_eq_true'] at q
      have ha := VP_a hv
      have h4 := dfs_is (VP_cons hv q.1 q.2 (by omega) (by omega)) h3
      refine ⟨h4.1, h4.2.1, ?_⟩
      rw [h4.2.2, List.length_cons]
      omega
    · cases h3
theorem fnd_is {G : Int → Int → Bool} {m : List Int} (h : fnd G = some m) : ∃ a, VP G a m ∧ G (m.headD 0) a = true ∧ 2 ≤ m.length ∧ m.length ≤ 5 := by
  obtain ⟨z, h1, h2, h3⟩ := scan_is h
  obtain ⟨a, h4, h5, h6⟩ := scan_is h3
  have h7 := dfs_is (l := [a]) ⟨rfl, by omega, by omega⟩ h6
  refine ⟨a, h7.1, h7.2.1, ?_, ?_⟩
  · rw [h7.2.2]; simp only [List.length_singleton]; omega
  · rw [h7.2.2]; simp only [List.length_singleton]; omega
/-- the least along the path, beside c -/
def lsL (op : Int → Int → Int) (c : Int) : List Int → Int
  | [] => c
  | [_] => c
  | x :: y :: t => mn (lsL op c (y :: t)) (op y x)
/-- each owes less along the path -/
def ntL (ow : Fn) (v : Int) : List Int → Fn
  | [] => ow
  | [_] => ow
  | x :: y :: t => adF (ntL ow v (y :: t)) y x (-v)
def opF (ow fz : Fn) (i j : Int) : Int := ow (ix i j) - fz (ix i j)
def lsR (ow fz : Fn) (l : List Int) : Int := lsL (opF ow fz) (opF ow fz (l.headD 0) (l.getLastD 0)) l
def ntR (ow fz : Fn) (l : List Int) : Fn := ntL (adF ow (l.headD 0) (l.getLastD 0) (-(lsR ow fz l))) (lsR ow fz l) l
/-- a ring netted, if there is one -/
def stp (fz ow : Fn) : Fn := match fnd (Gb ow fz) with
  | some l => ntR ow fz l
  | none => ow
def rgN (fz ow : Fn) : Nat → Fn
  | 0 => ow
  | n + 1 => stp fz (rgN fz ow n)
/-- what a row tells of a ring -/
def rowIs (h : Fn) (c v : Int) (l : List Int) : Prop := h (rix c 0) = l.length ∧ h (rix c 1) = v ∧ pl (fun k => h (rix c (2 + k))) l.length = l ∧ ∀ k : Int, l.length ≤ k → k < 5 → h (rix c (2 + k)) = -1
theorem pl_last (f : Fn) : ∀ n : Nat, 0 < n → (pl f n).getLastD 0 = f 0
  | 0, h => absurd h (Nat.lt_irrefl 0)
  | 1, _ => rfl
  | n + 2, _ => by
    have := pl_last f (n + 1) (by omega)
    rw [← this]
    rfl
theorem pl_head (f : Fn) (n : Nat) (h : 0 < n) : (pl f n).headD 0 = f ((n : Int) - 1) := by
  obtain ⟨k, rfl⟩ : ∃ k, n = k + 1 := ⟨n - 1, by omega⟩
  rw [pl, show ((k + 1 : Nat) : Int) - 1 = k by omega]
  rfl
theorem pl_in {f : Fn} {n : Nat} {k : Int} (h0 : 0 ≤ k) (h1 : k < n) : f k ∈ pl f n := by
  induction n with
  | zero => omega
  | succ n ih =>
    rw [pl]
    by_cases h : k = n
    · subst h; exact List.mem_cons_self
    · exact List.mem_cons_of_mem _ (ih (by omega))
theorem adF_comm (f : Fn) (i j v a b w : Int) : adF (adF f i j v) a b w = adF (adF f a b w) i j v := by
  unfold adF
  by_cases h : ix i j = ix a b
  · rw [h, up_same, up_same, up_up, up_up]
    congr 1
    omega
  · rw [up_ne (fun q => h q.symm), up_ne h, up_swap _ _ _ h]
theorem ntL_adF (ow : Fn) (v a b w : Int) : ∀ l : List Int, ntL (adF ow a b w) v l = adF (ntL ow v l) a b w
  | [] => rfl
  | [_] => rfl
  | x :: y :: t => by rw [ntL, ntL, ntL_adF ow v a b w (y :: t), adF_comm]
/-! what netting does -/
def eds : List Int → List (Int × Int)
  | [] => []
  | [_] => []
  | x :: y :: t => (y, x) :: eds (y :: t)
theorem eds_in : ∀ {l : List Int} {a b : Int}, (a, b) ∈ eds l → a ∈ l ∧ b ∈ l
  | [], _, _, h => by cases h
  | [_], _, _, h => by cases h
  | x :: y :: t, a, b, h => by
    rw [eds] at h
    rcases List.mem_cons.mp h with q | q
    · cases q
      exact ⟨List.mem_cons_of_mem _ List.mem_cons_self, List.mem_cons_self⟩
    · have := eds_in q
      exact ⟨List.mem_cons_of_mem _ this.1, List.mem_cons_of_mem _ this.2⟩
theorem notin_of_contains {l : List Int} {x : Int} (h : l.contains x = false) : x ∉ l := fun q => by
  rw [List.contains_iff_mem.mpr q] at h
  cases h
/-- the last one of a path is nobody's next -/
theorem eds_nlast {G : Int → Int → Bool} {a : Int} : ∀ {l : List Int} {i j : Int}, VP G a l → (i, j) ∈ eds l → a < j
  | [], _, _, h, _ => h.elim
  | [_], _, _, _, h => by cases h
  | x :: y :: t, i, j, hv, h => by
    rw [eds] at h
    rcases List.mem_cons.mp h with q | q
    · cases q; exact hv.2.2.1
    · exact eds_nlast hv.2.2.2.2 q
theorem eds_G {G : Int → Int → Bool} {a : Int} : ∀ {l : List Int} {i j : Int}, VP G a l → (i, j) ∈ eds l → G i j = true ∧ i ≠ j
  | [], _, _, h, _ => h.elim
  | [_], _, _, _, h => by cases h
  | x :: y :: t, i, j, hv, h => by
    rw [eds] at h
    rcases List.mem_cons.mp h with q | q
    · cases q
      exact ⟨hv.1, fun e => notin_of_contains hv.2.1 (e ▸ List.mem_cons_self)⟩
    · exact eds_G hv.2.2.2.2 q
theorem ntL_get {G : Int → Int → Bool} {a v : Int} {ow : Fn} : ∀ {l : List Int}, VP G a l → ∀ {i j : Int}, 0 ≤ j ∧ j < 9 → ntL ow v l (ix i j) = ow (ix i j) - if (i, j) ∈ eds l then v else 0
  | [], h, _, _, _ => h.elim
  | [_], _, i, j, _ => by rw [ntL, if_neg (by rw [eds]; exact List.not_mem_nil)]; omega
  | x :: y :: t, hv, i, j, hj => by
    have hx := VP_in hv x List.mem_cons_self
    rw [ntL, adF_get (by omega) hj, ntL_get hv.2.2.2.2 hj, eds]
    by_cases q : i = y ∧ j = x
    · obtain ⟨rfl, rfl⟩ := q
      rw [if_neg (fun z => notin_of_contains hv.2.1 (eds_in z).2), if_pos ⟨rfl, rfl⟩, if_pos List.mem_cons_self]
      omega
    · rw [if_neg q]
      have : ((i, j) ∈ (y, x) :: eds (y :: t)) ↔ (i, j) ∈ eds (y :: t) := by
        rw [List.mem_cons]
        exact ⟨fun h => h.elim (fun e => absurd (by cases e; exact ⟨rfl, rfl⟩) q) id, Or.inr⟩
      by_cases z : (i, j) ∈ eds (y :: t)
      · rw [if_pos z, if_pos (this.mpr z)]; omega
      · rw [if_neg z, if_neg (fun w => z (this.mp w))]; omega
theorem ntL_tot {G : Int → Int → Bool} {a v : Int} {ow : Fn} (hv0 : 0 ≤ v) : ∀ {l : List Int}, VP G a l → tot (ntL ow v l) ≤ tot ow
  | [], h => h.elim
  | [_], _ => Int.le_refl _
  | x :: y :: t, hv => by
    have hx := VP_in hv x List.mem_cons_self
    have hy := VP_in hv y (List.mem_cons_of_mem _ List.mem_cons_self)
    have := ntL_tot (ow := ow) hv0 hv.2.2.2.2
    rw [ntL, tot_adF (by omega) (by omega)]
    omega
theorem lsL_le {op : Int → Int → Int} {c : Int} : ∀ {l : List Int}, lsL op c l ≤ c ∧ (∀ i j : Int, (i, j) ∈ eds l → lsL op c l ≤ op i j) ∧ (lsL op c l = c ∨ ∃ i j : Int, (i, j) ∈ eds l ∧ lsL op c l = op i j)
  | [] => ⟨Int.le_refl _, (fun _ _ h => by cases h), Or.inl rfl⟩
  | [_] => ⟨Int.le_refl _, (fun _ _ h => by cases h), Or.inl rfl⟩
  | x :: y :: t => by
    obtain ⟨h1, h2, h3⟩ := lsL_le (op := op) (c := c) (l := y :: t)
    rw [lsL, eds]
    have hm := mn_le (lsL op c (y :: t)) (op y x)
    refine ⟨by omega, fun i j h => ?_, ?_⟩
    · rcases List.mem_cons.mp h with q | q
      · cases q; exact hm.2.1
      · exact Int.le_trans hm.1 (h2 i j q)
    · rcases hm.2.2 with q | q
      · rcases h3 with z | ⟨i, j, z1, z2⟩
        · exact Or.inl (q.trans z)
        · exact Or.inr ⟨i, j, List.mem_cons_of_mem _ z1, q.trans z2⟩
      · exact Or.inr ⟨y, x, List.mem_cons_self, q⟩
/-- the ring's debts -/
def rgE (l : List Int) (i j : Int) : Prop := (i = l.headD 0 ∧ j = l.getLastD 0) ∨ (i, j) ∈ eds l
theorem ring_facts {ow fz : Fn} {a : Int} {l : List Int} (hv : VP (Gb ow fz) a l) (hc : Gb ow fz (l.headD 0) a = true) (h2 : 2 ≤ l.length) : (∀ i j : Int, rgE l i j → 0 ≤ i ∧ i < 8 ∧ 0 ≤ j ∧ j < 8 ∧ i ≠ j ∧ lsR ow fz l ≤ opF ow fz i j) ∧ 0 < lsR ow fz l ∧ (∃ i j : Int, rgE l i j ∧ lsR ow fz l = opF ow fz i j) ∧ (∀ i j : Int, 0 ≤ j ∧ j < 9 → (rgE l i j → ntR ow fz l (ix i j) = ow (ix i j) - lsR ow fz l) ∧ (¬ rgE l i j → ntR ow fz l (ix i j) = ow (ix i j))) ∧ tot (ntR ow fz l) ≤ tot ow := by
  obtain ⟨x, t, rfl⟩ := VP_ne hv
  have hl := VP_a hv
  have hx := VP_in hv x List.mem_cons_self
  have hgt : a < x := by
    cases t with
    | nil => exact absurd h2 (by simp)
    | cons y t => exact hv.2.2.1
  have hhd : (x :: t).headD 0 = x := rfl
  have hle := lsL_le (op := opF ow fz) (c := opF ow fz ((x :: t).headD 0) ((x :: t).getLastD 0)) (l := x :: t)
  have hpos : ∀ i j : Int, rgE (x :: t) i j → 0 < opF ow fz i j := by
    rintro i j (⟨h6, h7⟩ | h)
    · rw [h6, h7, hl.1]
      exact of_decide_eq_true hc
    · exact of_decide_eq_true (eds_G hv h).1
  have hE : ∀ i j : Int, rgE (x :: t) i j → 0 ≤ i ∧ i < 8 ∧ 0 ≤ j ∧ j < 8 ∧ i ≠ j ∧ lsR ow fz (x :: t) ≤ opF ow fz i j := by
    rintro i j (⟨h6, h7⟩ | h)
    · have e6 : i = x := h6
      have e7 : j = a := h7.trans hl.1
      rw [e6, e7]
      refine ⟨by omega, by omega, by omega, by omega, by omega, ?_⟩
      have h8 : lsR ow fz (x :: t) ≤ opF ow fz ((x :: t).headD 0) ((x :: t).getLastD 0) := hle.1
      rw [hl.1] at h8
      exact h8
    · have h5 := eds_in h
      have h6 := VP_in hv i h5.1
      have h7 := VP_in hv j h5.2
      exact ⟨by omega, by omega, by omega, by omega, (eds_G hv h).2, hle.2.1 i j h⟩
  have hmin : ∃ i j : Int, rgE (x :: t) i j ∧ lsR ow fz (x :: t) = opF ow fz i j := by
    rcases hle.2.2 with q | ⟨i, j, q1, q2⟩
    · exact ⟨_, _, Or.inl ⟨rfl, rfl⟩, q⟩
    · exact ⟨i, j, Or.inr q1, q2⟩
  have hv0 : 0 < lsR ow fz (x :: t) := by
    obtain ⟨i, j, h1, h3⟩ := hmin
    rw [h3]
    exact hpos i j h1
  refine ⟨hE, hv0, hmin, fun i j hj => ?_, ?_⟩
  · have hnc : ((x :: t).headD 0, (x :: t).getLastD 0) ∉ eds (x :: t) := fun z => by
      have := eds_nlast hv z
      rw [hl.1] at this
      omega
    have hget : ntR ow fz (x :: t) (ix i j) = ow (ix i j) + (if i = (x :: t).headD 0 ∧ j = (x :: t).getLastD 0 then -(lsR ow fz (x :: t)) else 0) - if (i, j) ∈ eds (x :: t) then lsR ow fz (x :: t) else 0 := by
      unfold ntR
      rw [ntL_get hv hj, adF_get (by rw [hl.1]; omega) hj]
    constructor
    · rintro (h | h)
      · rw [hget, if_pos h, if_neg (by rw [h.1, h.2]; exact hnc)]
        omega
      · rw [hget, if_neg (fun z => hnc (by rw [← z.1, ← z.2]; exact h)), if_pos h]
        omega
    · intro h
      rw [hget, if_neg (fun z => h (Or.inl z)), if_neg (fun z => h (Or.inr z))]
      omega
  · unfold ntR
    have h3 := ntL_tot (ow := adF ow ((x :: t).headD 0) ((x :: t).getLastD 0) (-(lsR ow fz (x :: t)))) (Int.le_of_lt hv0) hv
    rw [tot_adF (by rw [hhd]; omega) (by rw [hl.1]; omega)] at h3
    omega
/-- how many debts between shops aren't frozen whole -/
def cnF (ow fz : Fn) (i : Int) : Int := sI (fun j => if Gb ow fz i j = true then 1 else 0) 8
def cnp (ow fz : Fn) : Int := sI (cnF ow fz) 8
theorem stp_ok {ow fz : Fn} (h : OkD ow) (hf : Fz ow fz) : OkD (stp fz ow) ∧ Fz (stp fz ow) fz ∧ (fnd (Gb ow fz) ≠ none → cnp (stp fz ow) fz < cnp ow fz) := by
  unfold stp
  cases hq : fnd (Gb ow fz) with
  | none => exact ⟨h, hf, fun z => absurd rfl z⟩
  | some l =>
    obtain ⟨a, hv, hc, h2, h5⟩ := fnd_is hq
    obtain ⟨e1, e2, e3, e4, e5⟩ := ring_facts hv hc h2
    have key : ∀ i j : Int, 0 ≤ j ∧ j < 9 → ntR ow fz l (ix i j) ≤ ow (ix i j) ∧ (ntR ow fz l (ix i j) < ow (ix i j) → rgE l i j ∧ ntR ow fz l (ix i j) = ow (ix i j) - lsR ow fz l) := by
      intro i j hj
      by_cases z : rgE l i j
      · have := (e4 i j hj).1 z
        exact ⟨by omega, fun _ => ⟨z, this⟩⟩
      · have := (e4 i j hj).2 z
        exact ⟨by omega, fun w => by omega⟩
    have hfz : Fz (ntR ow fz l) fz := by
      intro i j i0 i9 j0 j9
      have h6 := hf i j i0 i9 j0 j9
      by_cases z : rgE l i j
      · rw [(e4 i j ⟨j0, j9⟩).1 z]
        have h7 := (e1 i j z).2.2.2.2.2
        unfold opF at h7
        omega
      · rw [(e4 i j ⟨j0, j9⟩).2 z]
        exact h6
    have mono : ∀ i j : Int, 0 ≤ j ∧ j < 9 → (if Gb (ntR ow fz l) fz i j = true then (1 : Int) else 0) ≤ if Gb ow fz i j = true then 1 else 0 := by
      intro i j hj
      have h6 := (key i j hj).1
      unfold Gb
      simp only [decide_eq_true_eq]
      split <;> split <;> omega
    refine ⟨⟨⟨fun i j i0 i9 j0 j9 => ?_, ?_⟩, fun i i0 i9 => ?_⟩, hfz, fun _ => ?_⟩
    · have := hfz i j i0 i9 j0 j9
      show 0 ≤ ntR ow fz l (ix i j)
      omega
    · have := h.1.2
      show tot (ntR ow fz l) ≤ 200000
      omega
    · have h6 := h.2 i i0 i9
      have h7 : ¬ rgE l i i := fun z => (e1 i i z).2.2.2.2.1 rfl
      show ntR ow fz l (ix i i) = 0
      rw [(e4 i i ⟨i0, i9⟩).2 h7, h6]
    · obtain ⟨i, j, z, hz⟩ := e3
      have hr := e1 i j z
      show cnp (ntR ow fz l) fz < cnp ow fz
      have h7 : Gb (ntR ow fz l) fz i j = false := by
        unfold Gb
        rw [(e4 i j (by omega)).1 z, hz]
        unfold opF
        exact decide_eq_false (by omega)
      have h8 : Gb ow fz i j = true := by
        unfold Gb
        unfold opF at hz
        exact decide_eq_true (by omega)
      have rowle : ∀ k : Int, 0 ≤ k → k < (8 : Nat) → cnF (ntR ow fz l) fz k ≤ cnF ow fz k := fun k _ _ => sI_mono (fun m m0 m1 => mono k m (by omega))
      have rowlt : cnF (ntR ow fz l) fz i < cnF ow fz i := by
        unfold cnF
        have e6 := sI_one (n := 8) (f := fun m => if Gb ow fz i m = true then (1 : Int) else 0) (g := up (fun m => if Gb ow fz i m = true then (1 : Int) else 0) j 0) (k := j) (by omega) (by omega) (fun m _ _ hm => up_ne hm)
        rw [up_same] at e6
        simp only [h8, if_true] at e6
        have e7 : sI (fun m => if Gb (ntR ow fz l) fz i m = true then (1 : Int) else 0) 8 ≤ sI (up (fun m => if Gb ow fz i m = true then (1 : Int) else 0) j 0) 8 := by
          apply sI_mono
          intro m m0 m1
          by_cases hm : m = j
          · subst hm
            rw [up_same]
            simp [h7]
          · rw [up_ne hm]
            exact mono i m (by omega)
        omega
      unfold cnp
      have e6 := sI_one (n := 8) (f := cnF ow fz) (g := up (cnF ow fz) i (cnF (ntR ow fz l) fz i)) (k := i) (by omega) (by omega) (fun m _ _ hm => up_ne hm)
      rw [up_same] at e6
      have e7 : sI (cnF (ntR ow fz l) fz) 8 ≤ sI (up (cnF ow fz) i (cnF (ntR ow fz l) fz i)) 8 := by
        apply sI_mono
        intro m m0 m1
        by_cases hm : m = i
        · subst hm
          rw [up_same]
          exact Int.le_refl _
        · rw [up_ne hm]
          exact rowle m m0 m1
      omega
theorem cnp_rng {ow fz : Fn} (h : OkD ow) (hf : Fz ow fz) : 0 ≤ cnp ow fz ∧ cnp ow fz ≤ 56 := by
  have b1 : ∀ i j : Int, 0 ≤ (if Gb ow fz i j = true then (1 : Int) else 0) ∧ (if Gb ow fz i j = true then (1 : Int) else 0) ≤ 1 := by
    intro i j
    split <;> omega
  have r0 : ∀ i : Int, 0 ≤ cnF ow fz i := fun i => sI_nn (fun j _ _ => (b1 i j).1)
  have r7 : ∀ i : Int, 0 ≤ i → i < (8 : Nat) → cnF ow fz i ≤ 7 := by
    intro i i0 i8
    have d0 : Gb ow fz i i = false := by
      unfold Gb
      have e1 := h.2 i i0 (by omega)
      have e2 := hf i i i0 (by omega) i0 (by omega)
      exact decide_eq_false (by omega)
    have e6 := sI_one (n := 8) (f := fun j => if Gb ow fz i j = true then (1 : Int) else 0) (g := up (fun j => if Gb ow fz i j = true then (1 : Int) else 0) i 1) (k := i) (by omega) (by omega) (fun m _ _ hm => up_ne hm)
    rw [up_same] at e6
    simp only [d0] at e6
    have e7 := sI_bound (n := 8) (f := up (fun j => if Gb ow fz i j = true then (1 : Int) else 0) i 1) (c := 1) (fun k _ _ => by
      unfold up
      split
      · omega
      · exact (b1 i k).2)
    rw [if_neg (show ¬ (false = true) by decide)] at e6
    show sI (fun j => if Gb ow fz i j = true then (1 : Int) else 0) 8 ≤ 7
    omega
  have e1 := sI_bound (n := 8) (f := cnF ow fz) (c := 7) r7
  have e2 : 0 ≤ sI (cnF ow fz) 8 := sI_nn (fun i _ _ => r0 i)
  unfold cnp
  omega
theorem rgN_ok {ow fz : Fn} (h : OkD ow) (hf : Fz ow fz) : ∀ n : Nat, OkD (rgN fz ow n) ∧ Fz (rgN fz ow n) fz
  | 0 => ⟨h, hf⟩
  | n + 1 => by
    have := rgN_ok h hf n
    have := stp_ok this.1 this.2
    exact ⟨this.1, this.2.1⟩
theorem rgN_cn {ow fz : Fn} (h : OkD ow) (hf : Fz ow fz) : ∀ n : Nat, (∀ k : Nat, k < n → fnd (Gb (rgN fz ow k) fz) ≠ none) → cnp (rgN fz ow n) fz + n ≤ cnp ow fz
  | 0, _ => by simp [rgN]
  | n + 1, hk => by
    have e1 := rgN_cn h hf n (fun k q => hk k (by omega))
    have e2 := rgN_ok h hf n
    have e3 := (stp_ok e2.1 e2.2).2.2 (hk n (by omega))
    show cnp (stp fz (rgN fz ow n)) fz + ((n + 1 : Nat) : Int) ≤ cnp ow fz
    omega
/-- after 56 rings there is none left -/
theorem rgN_56 {ow fz : Fn} (h : OkD ow) (hf : Fz ow fz) {n : Nat} (hk : ∀ k : Nat, k < n → fnd (Gb (rgN fz ow k) fz) ≠ none) : n ≤ 56 ∧ (n = 56 → fnd (Gb (rgN fz ow n) fz) = none) := by
  have e1 := rgN_cn h hf n hk
  have e2 := cnp_rng h hf
  have e3 := rgN_ok h hf n
  have e4 := cnp_rng e3.1 e3.2
  refine ⟨by omega, fun e => ?_⟩
  by_cases q : fnd (Gb (rgN fz ow n) fz) = none
  · exact q
  · have e5 := rgN_cn h hf (n + 1) (fun k hk2 => by
      by_cases z : k < n
      · exact hk k z
      · rw [show k = n by omega]; exact q)
    have e6 := rgN_ok h hf (n + 1)
    have e7 := cnp_rng e6.1 e6.2
    omega
