/-! ===== numbers in squares of nine ===== -/
abbrev Fn : Type := Int → Int
def ix (i j : Int) : Int := 9 * i + j
def up (f : Fn) (k v : Int) : Fn := fun x => if x = k then v else f x
def adF (f : Fn) (i j v : Int) : Fn := up f (ix i j) (f (ix i j) + v)
def mput (S : Mem) (o : Nat) (f : Fn) : Mem := fun o' => if o' = o then f else S o'
theorem up_same (f : Fn) (k v : Int) : up f k v k = v := if_pos rfl
theorem up_ne {f : Fn} {k v x : Int} (h : x ≠ k) : up f k v x = f x := if_neg h
theorem up_self (f : Fn) (k : Int) : up f k (f k) = f := by
  funext x
  unfold up
  split
  · rename_i h; rw [h]
  · rfl
theorem up_up (f : Fn) (k v w : Int) : up (up f k v) k w = up f k w := by
  funext x
  unfold up
  split <;> rfl
theorem up_swap (f : Fn) {k l : Int} (v w : Int) (h : k ≠ l) : up (up f k v) l w = up (up f l w) k v := by
  funext x
  unfold up
  split <;> split <;> first | rfl | omega
theorem mput_same (S : Mem) (o : Nat) (f : Fn) : mput S o f o = f := if_pos rfl
theorem mput_ne {S : Mem} {o o2 : Nat} {f : Fn} (h : o2 ≠ o) : mput S o f o2 = S o2 := if_neg h
theorem mput_self (S : Mem) (o : Nat) : mput S o (S o) = S := by
  funext x
  unfold mput
  split
  · rename_i h; rw [h]
  · rfl
theorem mput_mput (S : Mem) (o : Nat) (f h : Fn) : mput (mput S o f) o h = mput S o h := by
  funext x
  unfold mput
  split <;> rfl
theorem mput_swap (S : Mem) {o o2 : Nat} (f h : Fn) (hn : o ≠ o2) : mput (mput S o f) o2 h = mput (mput S o2 h) o f := by
  funext x
  unfold mput
  split <;> split <;> first | rfl | (exfalso; omega)
theorem mset_mput (S : Mem) (o : Nat) (i v : Int) : mset S o i v = mput S o (up (S o) i v) := by
  funext o' i'
  by_cases h : o' = o
  · subst h
    rw [mput_same]
    unfold mset up
    by_cases h2 : i' = i
    · rw [if_pos ⟨rfl, h2⟩, if_pos h2]
    · rw [if_neg (fun q => h2 q.2), if_neg h2]
  · rw [mput_ne h]
    unfold mset
    rw [if_neg (fun q => h q.1)]
theorem ix_inj {i j i2 j2 : Int} (h1 : 0 ≤ j ∧ j < 9) (h2 : 0 ≤ j2 ∧ j2 < 9) : ix i j = ix i2 j2 ↔ i = i2 ∧ j = j2 := by
  unfold ix
  omega
theorem tg_ix {f : Fn} {i j : Int} (hi : 0 ≤ i ∧ i < 9) (hj : 0 ≤ j ∧ j < 9) : tg 9 9 f i j = f (ix i j) := by
  unfold tg ix
  rw [if_pos (by omega), Int.mul_comm]
theorem ts_ix {S : Mem} {a : Nat} {i j v : Int} (hi : 0 ≤ i ∧ i < 9) (hj : 0 ≤ j ∧ j < 9) : ts S a 9 9 i j v = mput S a (up (S a) (ix i j) v) := by
  unfold ts
  rw [if_pos (by omega), mset_mput]
  unfold ix
  rw [Int.mul_comm]
/-! sums -/
theorem sI_cong {f g : Fn} : ∀ {n : Nat}, (∀ k : Int, 0 ≤ k → k < n → f k = g k) → sI f n = sI g n
  | 0, _ => rfl
  | n + 1, h => by
    rw [sI, sI, sI_cong (n := n) (fun k h0 h1 => h k h0 (by omega)), h n (by omega) (by omega)]
theorem sI_add (f g : Fn) : ∀ n : Nat, sI (fun k => f k + g k) n = sI f n + sI g n
  | 0 => rfl
  | n + 1 => by rw [sI, sI, sI, sI_add f g n]; omega
theorem sI_sub (f g : Fn) : ∀ n : Nat, sI (fun k => f k - g k) n = sI f n - sI g n
  | 0 => rfl
  | n + 1 => by rw [sI, sI, sI, sI_sub f g n]; omega
theorem sI_zero {f : Fn} : ∀ {n : Nat}, (∀ k : Int, 0 ≤ k → k < n → f k = 0) → sI f n = 0
  | 0, _ => rfl
  | n + 1, h => by rw [sI, sI_zero (n := n) (fun k h0 h1 => h k h0 (by omega)), h n (by omega) (by omega)]; rfl
theorem sI_nn {f : Fn} : ∀ {n : Nat}, (∀ k : Int, 0 ≤ k → k < n → 0 ≤ f k) → 0 ≤ sI f n
  | 0, _ => Int.le_refl 0
  | n + 1, h => by
    have h1 := sI_nn (n := n) (fun k h0 h1 => h k h0 (by omega))
    have h2 := h n (by omega) (by omega)
    rw [sI]; omega
theorem sI_mono {f g : Fn} : ∀ {n : Nat}, (∀ k : Int, 0 ≤ k → k < n → f k ≤ g k) → sI f n ≤ sI g n
  | 0, _ => Int.le_refl 0
  | n + 1, h => by
    have h1 := sI_mono (n := n) (fun k h0 h1 => h k h0 (by omega))
    have h2 := h n (by omega) (by omega)
    rw [sI, sI]; omega
theorem sI_ge {f : Fn} {k : Int} : ∀ {n : Nat}, (∀ k : Int, 0 ≤ k → k < n → 0 ≤ f k) → 0 ≤ k → k < n → f k ≤ sI f n
  | 0, _, h0, h1 => by omega
  | n + 1, h, h0, h1 => by
    have h2 := h n (by omega) (by omega)
    have h3 := sI_nn (n := n) (fun k h0 h1 => h k h0 (by omega))
    rw [sI]
    by_cases hk : k = n
    · subst hk; omega
    · have := sI_ge (n := n) (k := k) (fun k h0 h1 => h k h0 (by omega)) h0 (by omega)
      omega
theorem sI_up {f : Fn} {k v : Int} : ∀ {n : Nat}, 0 ≤ k → k < n → sI (up f k v) n = sI f n - f k + v
  | 0, h0, h1 => by omega
  | n + 1, h0, h1 => by
    rw [sI, sI]
    by_cases hk : k = n
    · subst hk
      rw [up_same, sI_cong (f := up f n v) (g := f) (fun k h0 h1 => up_ne (by omega))]
      omega
    · rw [up_ne (by omega), sI_up (n := n) h0 (by omega)]
      omega
/-- one place differs -/
theorem sI_one {f g : Fn} {k : Int} {n : Nat} (h0 : 0 ≤ k) (h1 : k < n) (h : ∀ x : Int, 0 ≤ x → x < n → x ≠ k → g x = f x) : sI g n = sI f n - f k + g k := by
  rw [← sI_up h0 h1]
  apply sI_cong
  intro x hx0 hx1
  unfold up
  split
  · rename_i e; rw [e]
  · rename_i e; exact h x hx0 hx1 e
theorem sI_bound {f : Fn} {c : Int} : ∀ {n : Nat}, (∀ k : Int, 0 ≤ k → k < n → f k ≤ c) → sI f n ≤ n * c
  | 0, _ => by simp [sI]
  | n + 1, h => by
    have h1 := sI_bound (n := n) (fun k h0 h1 => h k h0 (by omega))
    have h2 := h n (by omega) (by omega)
    rw [sI, show ((n + 1 : Nat) : Int) = (n : Int) + 1 by omega, Int.add_mul, Int.one_mul]
    omega
def row (f : Fn) (i : Int) : Int := sI (fun j => f (ix i j)) 9
def col (f : Fn) (j : Int) : Int := sI (fun i => f (ix i j)) 9
def tot (f : Fn) : Int := sI (row f) 9
def bl (f : Fn) (x : Int) : Int := col f x - row f x
def in9 (i : Int) : Prop := 0 ≤ i ∧ i < 9
def nn9 (f : Fn) : Prop := ∀ i j : Int, 0 ≤ i → i < 9 → 0 ≤ j → j < 9 → 0 ≤ f (ix i j)
/-- nothing is below 0, all together are at most so many -/
def Ok (f : Fn) : Prop := nn9 f ∧ tot f ≤ 200000
theorem bal_bl {f : Fn} {x : Int} (h0 : 0 ≤ x) (h1 : x < 9) : bal f x = bl f x := by
  unfold bal bl row col
  rw [sI_cong (f := fun r => tg 9 9 f r x) (g := fun i => f (ix i x)) (fun k a b => tg_ix ⟨a, b⟩ ⟨h0, h1⟩), sI_cong (f := fun c => tg 9 9 f x c) (g := fun j => f (ix x j)) (fun k a b => tg_ix ⟨h0, h1⟩ ⟨a, b⟩)]
theorem adF_at (f : Fn) (i j v : Int) : adF f i j v (ix i j) = f (ix i j) + v := up_same _ _ _
theorem adF_ne {f : Fn} {i j v a b : Int} (hj : 0 ≤ j ∧ j < 9) (hb : 0 ≤ b ∧ b < 9) (h : ¬ (a = i ∧ b = j)) : adF f i j v (ix a b) = f (ix a b) := up_ne (fun q => h ((ix_inj hb hj).mp q))
theorem adF_get {f : Fn} {i j v a b : Int} (hj : 0 ≤ j ∧ j < 9) (hb : 0 ≤ b ∧ b < 9) : adF f i j v (ix a b) = f (ix a b) + if a = i ∧ b = j then v else 0 := by
  split
  · rename_i h
    rw [h.1, h.2, adF_at]
  · rename_i h
    rw [adF_ne hj hb h, Int.add_zero]
theorem adF_0 (f : Fn) (i j : Int) : adF f i j 0 = f := by
  unfold adF
  rw [Int.add_zero, up_self]
theorem row_adF {f : Fn} {i j v x : Int} (hj : 0 ≤ j ∧ j < 9) : row (adF f i j v) x = row f x + if x = i then v else 0 := by
  unfold row
  by_cases h : x = i
  · subst h
    rw [sI_one (n := 9) (f := fun j => f (ix x j)) (k := j) hj.1 hj.2 (fun y h0 h1 hy => adF_ne hj ⟨h0, h1⟩ (fun q => hy q.2)), adF_at, if_pos rfl]
    omega
  · rw [if_neg h, Int.add_zero]
    exact sI_cong (fun y h0 h1 => adF_ne hj ⟨h0, h1⟩ (fun q => h q.1))
theorem col_adF {f : Fn} {i j v x : Int} (hi : 0 ≤ i ∧ i < 9) (hj : 0 ≤ j ∧ j < 9) (hx : 0 ≤ x ∧ x < 9) : col (adF f i j v) x = col f x + if x = j then v else 0 := by
  unfold col
  by_cases h : x = j
  · subst h
    rw [sI_one (n := 9) (f := fun i => f (ix i x)) (k := i) hi.1 hi.2 (fun y h0 h1 hy => adF_ne hj hx (fun q => hy q.1)), adF_at, if_pos rfl]
    omega
  · rw [if_neg h, Int.add_zero]
    exact sI_cong (fun y h0 h1 => adF_ne hj hx (fun q => h q.2))
theorem tot_adF {f : Fn} {i j v : Int} (hi : 0 ≤ i ∧ i < 9) (hj : 0 ≤ j ∧ j < 9) : tot (adF f i j v) = tot f + v := by
  unfold tot
  rw [sI_one (n := 9) (f := row f) (k := i) hi.1 hi.2 (fun y h0 h1 hy => by rw [row_adF hj, if_neg hy, Int.add_zero]), row_adF hj, if_pos rfl]
  omega
theorem bl_adF {f : Fn} {i j v x : Int} (hi : 0 ≤ i ∧ i < 9) (hj : 0 ≤ j ∧ j < 9) (hx : 0 ≤ x ∧ x < 9) : bl (adF f i j v) x = bl f x + (if x = j then v else 0) - (if x = i then v else 0) := by
  unfold bl
  rw [row_adF hj, col_adF hi hj hx]
  omega
theorem row_nn {f : Fn} (h : nn9 f) {i : Int} (hi : 0 ≤ i ∧ i < 9) : 0 ≤ row f i := sI_nn (fun k h0 h1 => h i k hi.1 hi.2 h0 h1)
theorem col_nn {f : Fn} (h : nn9 f) {i : Int} (hi : 0 ≤ i ∧ i < 9) : 0 ≤ col f i := sI_nn (fun k h0 h1 => h k i h0 h1 hi.1 hi.2)
theorem row_ge {f : Fn} (h : nn9 f) {i j : Int} (hi : 0 ≤ i ∧ i < 9) (hj : 0 ≤ j ∧ j < 9) : f (ix i j) ≤ row f i := sI_ge (f := fun j => f (ix i j)) (fun k h0 h1 => h i k hi.1 hi.2 h0 h1) hj.1 hj.2
theorem row_le {f : Fn} (h : nn9 f) {i : Int} (hi : 0 ≤ i ∧ i < 9) : row f i ≤ tot f := sI_ge (f := row f) (fun k h0 h1 => row_nn h ⟨h0, h1⟩) hi.1 hi.2
theorem col_le {f : Fn} (h : nn9 f) {j : Int} (hj : 0 ≤ j ∧ j < 9) : col f j ≤ tot f := sI_mono (fun k h0 h1 => row_ge h ⟨h0, h1⟩ hj)
theorem ent_le {f : Fn} (h : nn9 f) {i j : Int} (hi : 0 ≤ i ∧ i < 9) (hj : 0 ≤ j ∧ j < 9) : f (ix i j) ≤ tot f := Int.le_trans (row_ge h hi hj) (row_le h hi)
theorem Ok.ent {f : Fn} (h : Ok f) {i j : Int} (hi : 0 ≤ i ∧ i < 9) (hj : 0 ≤ j ∧ j < 9) : 0 ≤ f (ix i j) ∧ f (ix i j) ≤ 200000 := ⟨h.1 i j hi.1 hi.2 hj.1 hj.2, Int.le_trans (ent_le h.1 hi hj) h.2⟩
theorem Ok.bl {f : Fn} (h : Ok f) {x : Int} (hx : 0 ≤ x ∧ x < 9) : -200000 ≤ bl f x ∧ bl f x ≤ 200000 := by
  have h1 := row_nn h.1 hx
  have h2 := col_nn h.1 hx
  have h3 := row_le h.1 hx
  have h4 := col_le h.1 hx
  have h5 := h.2
  unfold Jvm.Pilot.CMutualledgerLaw_law_r9768_bec298.bl
  omega
/-- what is taken over -/
def tkF (f : Fn) (one s to m : Int) : Fn := if one = to then adF f s to (-m) else adF (adF f s to (-m)) one to m
def mn (a b : Int) : Int := if b < a then b else a
theorem mn_le (a b : Int) : mn a b ≤ a ∧ mn a b ≤ b ∧ (mn a b = a ∨ mn a b = b) := by
  unfold mn
  split <;> omega
/-- a shop's debt passed on: from d, to c -/
def psF (s d c : Int) (f : Fn) : Fn := tkF (adF f d s (-(mn (f (ix d s)) (f (ix s c))))) d s c (mn (f (ix d s)) (f (ix s c)))
def it {α : Type} (F : Int → α → α) (x : α) : Nat → α
  | 0 => x
  | n + 1 => F n (it F x n)
theorem it_inv {α : Type} {F : Int → α → α} {P : α → Prop} {x : α} (h0 : P x) : ∀ {n : Nat}, (∀ (k : Int) (y : α), 0 ≤ k → k < n → P y → P (F k y)) → P (it F x n)
  | 0, _ => h0
  | n + 1, h => h n _ (by omega) (by omega) (it_inv (n := n) h0 (fun k y a b => h k y a (by omega)))
def dz (f : Fn) : Prop := ∀ i : Int, 0 ≤ i → i < 9 → f (ix i i) = 0
def OkD (f : Fn) : Prop := Ok f ∧ dz f
theorem tkF_get {f : Fn} {one s to m a b : Int} (ht : 0 ≤ to ∧ to < 9) (hb : 0 ≤ b ∧ b < 9) : tkF f one s to m (ix a b) = f (ix a b) + (if a = s ∧ b = to then -m else 0) + (if one ≠ to ∧ a = one ∧ b = to then m else 0) := by
  unfold tkF
  split
  · rename_i h
    rw [adF_get ht hb, if_neg (c := one ≠ to ∧ a = one ∧ b = to) (fun q => q.1 h), Int.add_zero]
  · rename_i h
    rw [adF_get ht hb, adF_get ht hb]
    congr 1
    by_cases q : a = one ∧ b = to
    · rw [if_pos q, if_pos ⟨h, q⟩]
    · rw [if_neg q, if_neg (fun z => q z.2)]
theorem tkF_tot {f : Fn} {one s to m : Int} (h1 : 0 ≤ one ∧ one < 9) (hs : 0 ≤ s ∧ s < 9) (ht : 0 ≤ to ∧ to < 9) : tot (tkF f one s to m) = tot f - m + if one = to then 0 else m := by
  unfold tkF
  split
  · rw [tot_adF hs ht]; omega
  · rw [tot_adF h1 ht, tot_adF hs ht]; omega
theorem psF_get {s d c : Int} {f : Fn} (hs : 0 ≤ s ∧ s < 9) (hc : 0 ≤ c ∧ c < 9) {a b : Int} (hb : 0 ≤ b ∧ b < 9) : psF s d c f (ix a b) = f (ix a b) + (if a = d ∧ b = s then -(mn (f (ix d s)) (f (ix s c))) else 0) + (if a = s ∧ b = c then -(mn (f (ix d s)) (f (ix s c))) else 0) + (if d ≠ c ∧ a = d ∧ b = c then mn (f (ix d s)) (f (ix s c)) else 0) := by
  unfold psF
  rw [tkF_get hc hb, adF_get hs hb]
theorem psF_ok {s d c : Int} {f : Fn} (hs : 0 ≤ s ∧ s < 9) (hd : 0 ≤ d ∧ d < 9) (hc : 0 ≤ c ∧ c < 9) (h : OkD f) : OkD (psF s d c f) := by
  obtain ⟨⟨hn, ht⟩, hz⟩ := h
  have hm := mn_le (f (ix d s)) (f (ix s c))
  have e1 := hn d s hd.1 hd.2 hs.1 hs.2
  have e2 := hn s c hs.1 hs.2 hc.1 hc.2
  have e3 := hz s hs.1 hs.2
  have m0 : d = s ∨ c = s → mn (f (ix d s)) (f (ix s c)) = 0 := by
    rintro (rfl | rfl)
    · rw [e3] at hm ⊢; omega
    · rw [e3] at hm ⊢; omega
  generalize hme : mn (f (ix d s)) (f (ix s c)) = m at hm m0
  refine ⟨⟨fun a b a0 a9 b0 b9 => ?_, ?_⟩, fun a a0 a9 => ?_⟩
  · rw [psF_get hs hc ⟨b0, b9⟩, hme]
    have e4 := hn a b a0 a9 b0 b9
    by_cases q1 : a = d ∧ b = s
    · obtain ⟨rfl, rfl⟩ := q1
      by_cases q2 : a = b ∧ b = c
      · obtain ⟨rfl, rfl⟩ := q2
        have := m0 (Or.inl rfl)
        split <;> split <;> omega
      · rw [if_pos ⟨rfl, rfl⟩, if_neg q2]
        split <;> omega
    · rw [if_neg q1]
      by_cases q2 : a = s ∧ b = c
      · obtain ⟨rfl, rfl⟩ := q2
        rw [if_pos ⟨rfl, rfl⟩]
        split <;> omega
      · rw [if_neg q2]
        split <;> omega
  · unfold psF
    rw [tkF_tot hd hs hc, tot_adF hd hs, hme]
    split <;> omega
  · rw [psF_get hs hc ⟨a0, a9⟩, hme, hz a a0 a9]
    have e5 : (if a = d ∧ a = s then -m else 0) = 0 := by
      split
      · rename_i q; have := m0 (Or.inl (by omega)); omega
      · rfl
    have e6 : (if a = s ∧ a = c then -m else 0) = 0 := by
      split
      · rename_i q; have := m0 (Or.inr (by omega)); omega
      · rfl
    have e7 : (if d ≠ c ∧ a = d ∧ a = c then m else 0) = 0 := if_neg (by omega)
    rw [e5, e6, e7]; rfl
def psI (s d : Int) (f : Fn) (n : Nat) : Fn := it (fun c => psF s d c) f n
def psO (s : Int) (f : Fn) (n : Nat) : Fn := it (fun d f => psI s d f 9) f n
theorem psI_ok {s d : Int} {f : Fn} (hs : 0 ≤ s ∧ s < 9) (hd : 0 ≤ d ∧ d < 9) (h : OkD f) {n : Nat} (hn : n ≤ 9) : OkD (psI s d f n) := it_inv h (fun k y a b hy => psF_ok hs hd (by omega) hy)
theorem psO_ok {s : Int} {f : Fn} (hs : 0 ≤ s ∧ s < 9) (h : OkD f) {n : Nat} (hn : n ≤ 8) : OkD (psO s f n) := it_inv h (fun k y a b hy => psI_ok hs (by omega) hy (Nat.le_refl 9))
/-- a guarantor's payment: g for s, to c: what is owed, what is guaranteed, what was given up -/
def lgF (s c g : Int) (x : Fn × Fn × Fn) : Fn × Fn × Fn := (tkF x.1 g s c (mn (x.1 (ix s c)) (x.2.1 (ix g s))), adF x.2.1 g s (-(mn (x.1 (ix s c)) (x.2.1 (ix g s)))), adF x.2.2 g s (mn (x.1 (ix s c)) (x.2.1 (ix g s))))
def lgI (s c : Int) (x : Fn × Fn × Fn) (n : Nat) : Fn × Fn × Fn := it (fun g => lgF s c g) x n
def lgO (s : Int) (x : Fn × Fn × Fn) (n : Nat) : Fn × Fn × Fn := it (fun c x => lgI s c x 8) x n
def lgOk (x : Fn × Fn × Fn) : Prop := OkD x.1 ∧ OkD x.2.1
theorem tkF_ok {f : Fn} {one s to m : Int} (h1 : 0 ≤ one ∧ one < 9) (hs : 0 ≤ s ∧ s < 9) (ht : 0 ≤ to ∧ to < 9) (h : OkD f) (hm : 0 ≤ m ∧ m ≤ f (ix s to)) : OkD (tkF f one s to m) := by
  obtain ⟨⟨hn, hT⟩, hz⟩ := h
  refine ⟨⟨fun a b a0 a9 b0 b9 => ?_, ?_⟩, fun a a0 a9 => ?_⟩
  · rw [tkF_get ht ⟨b0, b9⟩]
    have e4 := hn a b a0 a9 b0 b9
    by_cases q1 : a = s ∧ b = to
    · obtain ⟨rfl, rfl⟩ := q1
      rw [if_pos ⟨rfl, rfl⟩]
      split <;> omega
    · rw [if_neg q1]
      split <;> omega
  · rw [tkF_tot h1 hs ht]
    split <;> omega
  · rw [tkF_get ht ⟨a0, a9⟩, hz a a0 a9]
    have e5 : (if a = s ∧ a = to then -m else 0) = 0 := by
      split
      · rename_i q
        have e6 := hz a a0 a9
        rw [← q.1, ← q.2, e6] at hm
        omega
      · rfl
    have e7 : (if one ≠ to ∧ a = one ∧ a = to then m else 0) = 0 := if_neg (by omega)
    rw [e5, e7]; rfl
theorem adF_ok {f : Fn} {i j m : Int} (hi : 0 ≤ i ∧ i < 9) (hj : 0 ≤ j ∧ j < 9) (h : OkD f) (hm : 0 ≤ m ∧ m ≤ f (ix i j)) : OkD (adF f i j (-m)) := by
  obtain ⟨⟨hn, hT⟩, hz⟩ := h
  refine ⟨⟨fun a b a0 a9 b0 b9 => ?_, ?_⟩, fun a a0 a9 => ?_⟩
  · rw [adF_get hj ⟨b0, b9⟩]
    have e4 := hn a b a0 a9 b0 b9
    split
    · rename_i q; rw [q.1, q.2]; omega
    · omega
  · rw [tot_adF hi hj]; omega
  · rw [adF_get hj ⟨a0, a9⟩, hz a a0 a9]
    split
    · rename_i q
      have e6 := hz a a0 a9
      rw [← q.1, ← q.2, e6] at hm
      omega
    · rfl
theorem lgF_ok {s c g : Int} {x : Fn × Fn × Fn} (hs : 0 ≤ s ∧ s < 9) (hc : 0 ≤ c ∧ c < 9) (hg : 0 ≤ g ∧ g < 9) (h : lgOk x) : lgOk (lgF s c g x) := by
  have hm := mn_le (x.1 (ix s c)) (x.2.1 (ix g s))
  have e1 := h.1.1.1 s c hs.1 hs.2 hc.1 hc.2
  have e2 := h.2.1.1 g s hg.1 hg.2 hs.1 hs.2
  exact ⟨tkF_ok hg hs hc h.1 (by omega), adF_ok hg hs h.2 (by omega)⟩
theorem lgI_ok {s c : Int} {x : Fn × Fn × Fn} (hs : 0 ≤ s ∧ s < 9) (hc : 0 ≤ c ∧ c < 9) (h : lgOk x) {n : Nat} (hn : n ≤ 9) : lgOk (lgI s c x n) := it_inv h (fun k y a b hy => lgF_ok hs hc (by omega) hy)
theorem lgO_ok {s : Int} {x : Fn × Fn × Fn} (hs : 0 ≤ s ∧ s < 9) (h : lgOk x) {n : Nat} (hn : n ≤ 9) : lgOk (lgO s x n) := it_inv h (fun k y a b hy => lgI_ok hs (by omega) hy (by omega))
/-- what a shop owes, then what is owed to it, in goods: what is owed, what was given up, how much -/
def gbF (s c : Int) (x : Fn × Fn × Int) : Fn × Fn × Int := (adF x.1 s c (-(x.1 (ix s c))), adF x.2.1 c s (x.1 (ix s c)), x.2.2 + x.1 (ix s c))
def gtF (s d : Int) (x : Fn × Fn × Int) : Fn × Fn × Int := (adF x.1 d s (-(x.1 (ix d s))), adF x.2.1 s d (x.1 (ix d s)), x.2.2 + x.1 (ix d s))
def gbI (s : Int) (x : Fn × Fn × Int) (n : Nat) : Fn × Fn × Int := it (fun c => gbF s c) x n
def gtI (s : Int) (x : Fn × Fn × Int) (n : Nat) : Fn × Fn × Int := it (fun c => gtF s c) x n
def m2 (S : Mem) (x : Fn × Fn) : Mem := mput (mput S 8 x.1) 14 x.2
def m3 (S : Mem) (x : Fn × Fn × Fn) : Mem := mput (mput (mput S 8 x.1) 12 x.2.1) 14 x.2.2
