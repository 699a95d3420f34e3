abbrev vwCl : List vw_C := [(RX0, TX0, 2), (RX1, TX1, 2), (RX2, TX2, 3), (RX3, TX3, 2), (RX4, TX4, 9), (RX5, TX5, 19)]
/-! ===== the machine in whole numbers: ints as Int, the heap as a memory of Ints, cells by number ===== -/
def z32 (a : Int) : Int32 := Int32.ofInt a
def z64 (a : Int) : Int64 := Int64.ofInt a
theorem z_rng (x : Int32) : -2147483648 ≤ x.toInt ∧ x.toInt < 2147483648 := by
  have h1 := Int32.le_toInt x
  have h2 := Int32.toInt_lt x
  omega
theorem z32_of (x : Int32) : ∃ a : Int, (-2147483648 ≤ a ∧ a < 2147483648) ∧ x = z32 a := ⟨x.toInt, z_rng x, (Int32.ofInt_toInt x).symm⟩
theorem z32_toInt {a : Int} (h : -2147483648 ≤ a ∧ a < 2147483648) : (z32 a).toInt = a := by
  unfold z32
  have hs : Int32.size = 4294967296 := rfl
  rw [Int32.toInt_ofInt, hs, Int.bmod_eq_of_le (by omega) (by omega)]
theorem z64_toInt {a : Int} (h : -9223372036854775808 ≤ a ∧ a < 9223372036854775808) : (z64 a).toInt = a := by
  unfold z64
  have hs : Int64.size = 18446744073709551616 := rfl
  rw [Int64.toInt_ofInt, hs, Int.bmod_eq_of_le (by omega) (by omega)]
theorem z32_add (a b : Int) : z32 a + z32 b = z32 (a + b) := (Int32.ofInt_add a b).symm
theorem z32_sub (a b : Int) : z32 a - z32 b = z32 (a - b) := (Int32.ofInt_sub a b).symm
theorem z32_mul (a b : Int) : z32 a * z32 b = z32 (a * b) := (Int32.ofInt_mul a b).symm
theorem z32_neg (a : Int) : -z32 a = z32 (-a) := (Int32.ofInt_neg a).symm
theorem z64_mul (a b : Int) : z64 a * z64 b = z64 (a * b) := (Int64.ofInt_mul a b).symm
theorem z32_lt {a b : Int} (ha : -2147483648 ≤ a ∧ a < 2147483648) (hb : -2147483648 ≤ b ∧ b < 2147483648) : z32 a < z32 b ↔ a < b := by
  rw [Int32.lt_iff_toInt_lt, z32_toInt ha, z32_toInt hb]
theorem z32_le {a b : Int} (ha : -2147483648 ≤ a ∧ a < 2147483648) (hb : -2147483648 ≤ b ∧ b < 2147483648) : z32 a ≤ z32 b ↔ a ≤ b := by
  rw [Int32.le_iff_toInt_le, z32_toInt ha, z32_toInt hb]
theorem z32_eq {a b : Int} (ha : -2147483648 ≤ a ∧ a < 2147483648) (hb : -2147483648 ≤ b ∧ b < 2147483648) : z32 a = z32 b ↔ a = b := by
  rw [← Int32.toInt_inj, z32_toInt ha, z32_toInt hb]
theorem z32_0 : (0 : Int32) = z32 0 := by decide
theorem z32_div {a b : Int} (ha : -2147483648 ≤ a ∧ a < 2147483648) (hb : 0 < b ∧ b < 2147483648) : z32 a / z32 b = z32 (a.tdiv b) := by
  refine (Int32.ofInt_tdiv (a := a) (b := b) ?_ ?_ ?_ ?_).symm
  · rw [Int32.toInt_minValue]; omega
  · rw [Int32.toInt_maxValue]; omega
  · rw [Int32.toInt_minValue]; omega
  · rw [Int32.toInt_maxValue]; omega
theorem z64_div {a b : Int} (ha : -9223372036854775808 ≤ a ∧ a < 9223372036854775808) (hb : 0 < b ∧ b < 9223372036854775808) : z64 a / z64 b = z64 (a.tdiv b) := by
  refine (Int64.ofInt_tdiv (a := a) (b := b) ?_ ?_ ?_ ?_).symm
  · rw [Int64.toInt_minValue]; omega
  · rw [Int64.toInt_maxValue]; omega
  · rw [Int64.toInt_minValue]; omega
  · rw [Int64.toInt_maxValue]; omega
theorem z32_l {a : Int} (h : -2147483648 ≤ a ∧ a < 2147483648) : (z32 a).toInt64 = z64 a := by
  rw [← Int64.toInt_inj, Int32.toInt_toInt64, z32_toInt h, z64_toInt (by omega)]
theorem z64_i (a : Int) : (z64 a).toInt32 = z32 a := Int64.toInt32_ofInt
theorem z32_in {i : Int} {n : Nat} (h0 : 0 ≤ i) (h : i < (n : Int)) (hn : n < 2147483648) : vp_in (z32 i) n := by
  rw [vp_in_iff, z32_toInt (by omega)]
  exact ⟨h0, h⟩
theorem z32_cl {i : Int} (h0 : 0 ≤ i) (h : i < 2147483648) : (z32 i).toNatClampNeg = i.toNat := by
  show (z32 i).toInt.toNat = _
  rw [z32_toInt (by omega)]
theorem z32_iinc (a n : Int) : z32 a + Int32.ofInt n = z32 (a + n) := z32_add a n
/-- a field: a reference to a cell, an int of the memory, an int for good -/
abbrev mF : Type := Nat ⊕ Option Int
/-- a cell: an object of a class, by its fields; a row of a kind and length (kinds: 0 int, 1 boolean); a row of longs -/
abbrev mC : Type := (Nat × List mF) ⊕ ((Nat × Nat) ⊕ Nat)
abbrev Mem : Type := Nat → Int → Int
/-- what is fixed: the classes' numbers, the rows' classes by kind, the cells' addresses -/
abbrev mG : Type := va_G × (Nat → ClassId) × (Nat → Nat)
def mset (S : Mem) (o : Nat) (i v : Int) : Mem := fun o' i' => if o' = o ∧ i' = i then v else S o' i'
def mV (g : mG) (S : Mem) (o k : Nat) : mF → Value
  | .inl j => .ref (g.2.2 j)
  | .inr none => .int (z32 (S o k))
  | .inr (some v) => .int (z32 v)
def mFs (g : mG) (S : Mem) (o : Nat) : Nat → List mF → List Value
  | _, [] => []
  | k, f :: fs => mV g S o k f :: mFs g S o (k + 1) fs
def mE (g : mG) (S : Mem) (o : Nat) : mC → va_E
  | .inl (ci, fs) => .inr (ci, mFs g S o 0 fs)
  | .inr (.inl (t, n)) => .inl (g.2.1 t, n, .inl (fun j => z32 (S o j)))
  | .inr (.inr n) => .inl (g.2.1 2, n, .inr (.inl (fun j => z64 (S o j))))
def mWs (g : mG) (S : Mem) : Nat → List mC → va_W
  | _, [] => []
  | o, d :: ds => (g.2.2 o, mE g S o d) :: mWs g S (o + 1) ds
def gds : List mC := [.inl (4, [.inl 1, .inl 3, .inl 6, .inl 11, .inl 13, .inl 15, .inr none, .inr none, .inr none]), .inl (2, [.inr (some 8), .inr (some 2), .inl 2]), .inr (.inl (0, 16)), .inl (3, [.inl 4, .inr none]), .inl (2, [.inr (some 100), .inr (some 6), .inl 5]), .inr (.inl (0, 600)), .inl (0, [.inl 7, .inl 9]), .inl (2, [.inr (some 9), .inr (some 9), .inl 8]), .inr (.inl (0, 81)), .inl (2, [.inr (some 9), .inr (some 9), .inl 10]), .inr (.inl (0, 81)), .inl (2, [.inr (some 9), .inr (some 9), .inl 12]), .inr (.inl (0, 81)), .inl (2, [.inr (some 9), .inr (some 9), .inl 14]), .inr (.inl (0, 81)), .inl (1, [.inl 16, .inr none]), .inl (2, [.inr (some 57), .inr (some 7), .inl 17]), .inr (.inl (0, 399)), .inl (5, [.inr none, .inr none, .inl 19, .inl 20, .inl 21, .inl 22, .inl 23, .inr none, .inl 24, .inl 25, .inl 26, .inl 27, .inl 28, .inl 29, .inr none, .inr none, .inr none, .inl 30, .inl 31]), .inr (.inl (1, 8)), .inr (.inl (0, 81)), .inr (.inl (0, 81)), .inr (.inl (0, 81)), .inr (.inl (0, 8)), .inr (.inl (0, 100)), .inr (.inl (0, 100)), .inr (.inl (0, 100)), .inr (.inl (0, 100)), .inr (.inl (0, 100)), .inr (.inl (0, 100)), .inr (.inl (0, 700)), .inr (.inl (0, 5)), .inr (.inr 1)]
def mW (g : mG) (S : Mem) : va_W := mWs g S 0 gds
def mTys (g : mG) : List (ClassId × FieldType) := [(g.2.1 0, .int), (g.2.1 1, .boolean), (g.2.1 2, .long)]
theorem mWs_get (g : mG) (S : Mem) : ∀ (ds : List mC) (o k : Nat), (mWs g S o ds)[k]? = (ds[k]?).map (fun d => (g.2.2 (o + k), mE g S (o + k) d))
  | [], _, _ => by simp [mWs]
  | d :: ds, o, 0 => by simp [mWs]
  | d :: ds, o, k + 1 => by
    rw [mWs, List.getElem?_cons_succ, List.getElem?_cons_succ, mWs_get g S ds (o + 1) k, show o + 1 + k = o + (k + 1) by omega]
theorem mW_get (g : mG) (S : Mem) (k : Nat) : (mW g S)[k]? = (gds[k]?).map (fun d => (g.2.2 k, mE g S k d)) := by
  rw [mW, mWs_get, Nat.zero_add]
theorem mW_at (g : mG) (S : Mem) {k : Nat} {d : mC} (h : gds[k]? = some d) : (mW g S)[k]? = some (g.2.2 k, mE g S k d) := by
  rw [mW_get, h]; rfl
theorem mFs_get (g : mG) (S : Mem) (o : Nat) : ∀ (fs : List mF) (k0 k : Nat), (mFs g S o k0 fs)[k]? = (fs[k]?).map (mV g S o (k0 + k))
  | [], _, _ => by simp [mFs]
  | f :: fs, k0, 0 => by simp [mFs]
  | f :: fs, k0, k + 1 => by
    rw [mFs, List.getElem?_cons_succ, List.getElem?_cons_succ, mFs_get g S o fs (k0 + 1) k, show k0 + 1 + k = k0 + (k + 1) by omega]
theorem mFs_at (g : mG) (S : Mem) (o : Nat) {fs : List mF} {k : Nat} {f : mF} (h : fs[k]? = some f) : (mFs g S o 0 fs)[k]? = some (mV g S o k f) := by
  rw [mFs_get, h, Nat.zero_add]; rfl
theorem mFs_len (g : mG) (S : Mem) (o : Nat) : ∀ (fs : List mF) (k0 : Nat), (mFs g S o k0 fs).length = fs.length
  | [], _ => rfl
  | f :: fs, k0 => by rw [mFs, List.length_cons, List.length_cons, mFs_len g S o fs (k0 + 1)]
theorem mV_ne {g : mG} {S : Mem} {o o2 k : Nat} {i v : Int} (h : ¬ (o2 = o ∧ (k : Int) = i)) : ∀ f : mF, mV g (mset S o i v) o2 k f = mV g S o2 k f
  | .inl _ => rfl
  | .inr none => by simp only [mV, mset, if_neg h]
  | .inr (some _) => rfl
theorem mFs_ne {g : mG} {S : Mem} {o o2 : Nat} {i v : Int} (h : ¬ o2 = o) : ∀ (fs : List mF) (k0 : Nat), mFs g (mset S o i v) o2 k0 fs = mFs g S o2 k0 fs
  | [], _ => rfl
  | f :: fs, k0 => by rw [mFs, mFs, mV_ne (fun q => h q.1), mFs_ne h fs]
theorem mE_ne {g : mG} {S : Mem} {o o2 : Nat} {i v : Int} (h : ¬ o2 = o) : ∀ d : mC, mE g (mset S o i v) o2 d = mE g S o2 d
  | .inl (ci, fs) => by simp only [mE, mFs_ne h]
  | .inr (.inl (t, n)) => by simp only [mE, mset, h, false_and, if_false]
  | .inr (.inr n) => by simp only [mE, mset, h, false_and, if_false]
theorem mW_set {g : mG} {S : Mem} {o : Nat} {i v : Int} {d : mC} (h : gds[o]? = some d) : (mW g S).set o (g.2.2 o, mE g (mset S o i v) o d) = mW g (mset S o i v) := by
  apply List.ext_getElem?
  intro k
  rw [List.getElem?_set]
  by_cases hk : o = k
  · subst hk
    rw [if_pos rfl, mW_at g _ h, if_pos]
    exact (List.getElem?_eq_some_iff.mp (mW_at g S h)).1
  · rw [if_neg hk, mW_get, mW_get]
    have h2 : (fun d => (g.2.2 k, mE g S k d)) = (fun d => (g.2.2 k, mE g (mset S o i v) k d)) := funext fun d => by rw [mE_ne (fun q => hk q.symm)]
    rw [h2]
theorem mE_row {g : mG} {S : Mem} {o t n : Nat} {i v : Int} (h0 : 0 ≤ i) : mE g (mset S o i v) o (.inr (.inl (t, n))) = .inl (g.2.1 t, n, .inl (upd (fun j => z32 (S o j)) i.toNat (z32 v))) := by
  have : (fun j : Nat => z32 (mset S o i v o j)) = upd (fun j : Nat => z32 (S o j)) i.toNat (z32 v) := by
    funext j
    by_cases hj : j = i.toNat
    · subst hj
      simp only [mset, upd, if_true, true_and]
      rw [if_pos (Int.toNat_of_nonneg h0)]
    · simp only [mset, upd, if_neg hj, true_and]
      rw [if_neg (by omega)]
  simp only [mE, this]
theorem mE_rowL {g : mG} {S : Mem} {o n : Nat} {i v : Int} (h0 : 0 ≤ i) : mE g (mset S o i v) o (.inr (.inr n)) = .inl (g.2.1 2, n, .inr (.inl (vp_updL (fun j => z64 (S o j)) i.toNat (z64 v)))) := by
  have : (fun j : Nat => z64 (mset S o i v o j)) = vp_updL (fun j : Nat => z64 (S o j)) i.toNat (z64 v) := by
    funext j
    by_cases hj : j = i.toNat
    · subst hj
      simp only [mset, vp_updL, if_true, true_and]
      rw [if_pos (Int.toNat_of_nonneg h0)]
    · simp only [mset, vp_updL, if_neg hj, true_and]
      rw [if_neg (by omega)]
  simp only [mE, this]
theorem mFs_set {g : mG} {S : Mem} {o : Nat} {v : Int} : ∀ (fs : List mF) (k0 k : Nat), fs[k]? = some (.inr none) → (mFs g S o k0 fs).set k (.int (z32 v)) = mFs g (mset S o ((k0 + k : Nat) : Int) v) o k0 fs
  | [], _, _, h => by simp at h
  | f :: fs, k0, 0, h => by
    rw [List.getElem?_cons_zero] at h
    cases h
    rw [mFs, mFs, List.set_cons_zero]
    refine congr (congrArg _ ?_) ?_
    · simp only [mV, mset, Nat.add_zero, true_and, if_true]
    · have : ∀ (fs : List mF) (k1 : Nat), k0 < k1 → mFs g S o k1 fs = mFs g (mset S o ((k0 + 0 : Nat) : Int) v) o k1 fs := by
        intro fs
        induction fs with
        | nil => intros; rfl
        | cons f fs ih => intro k1 hk; rw [mFs, mFs, ← ih (k1 + 1) (by omega), mV_ne (by omega)]
      exact this fs (k0 + 1) (by omega)
  | f :: fs, k0, k + 1, h => by
    rw [List.getElem?_cons_succ] at h
    rw [mFs, mFs, List.set_cons_succ, mFs_set fs (k0 + 1) k h, mV_ne (by omega), show k0 + 1 + k = k0 + (k + 1) by omega]
theorem mA_ad (g : mG) (S S' : Mem) {k : Nat} {q : Nat × va_E} (h : (mW g S)[k]? = some q) : ∃ q', (mW g S')[k]? = some q' ∧ q'.1 = q.1 := by
  rw [mW_get] at h
  cases hd : gds[k]? with
  | none => rw [hd] at h; cases h
  | some d => rw [hd] at h; cases h; exact ⟨_, mW_at g S' hd, rfl⟩
theorem mD_of {g : mG} {A : Nat → Prop} {S : Mem} (S' : Mem) (h : va_D A (mW g S)) : va_D A (mW g S') := by
  refine ⟨fun i j p q hi hj hpq => ?_, fun k q hk => ?_⟩
  · obtain ⟨p', h1, e1⟩ := mA_ad g S' S hi
    obtain ⟨q', h2, e2⟩ := mA_ad g S' S hj
    exact h.1 i j p' q' h1 h2 (by rw [e1, e2, hpq])
  · obtain ⟨q', h1, e1⟩ := mA_ad g S' S hk
    rw [← e1]
    exact h.2 k q' h1
theorem mA_of {g : mG} {S : Mem} (S' : Mem) {sz q : Nat} (h : va_A (mW g S) sz q) : va_A (mW g S') sz q := by
  rcases h with ⟨k, e, h⟩ | h
  · obtain ⟨q', h1, e1⟩ := mA_ad g S S' h
    obtain ⟨a, e'⟩ := q'
    cases e1
    exact Or.inl ⟨k, e', h1⟩
  · exact Or.inr h
theorem mA_free {g : mG} {S : Mem} {A : Nat → Prop} {H0 H : Heap} {locs : List Loc} (hD : va_D A (mW g S)) (hS : va_S A H0 H locs) (hA : ∀ q, H0.size ≤ q → A q) : ∀ q, va_A (mW g S) H.size q → A q := by
  intro q h
  rcases h with ⟨k, e, h⟩ | h
  · exact hD.2 k (q, e) h
  · exact hA q (Nat.le_trans hS.1 h)
/-- a body's surroundings -/
abbrev mX : Type := Program × Launch × Env × Room × State × MethodId × Array Value × List Frame × Method × Code × (State → Prop) × (Nat → Prop)
def mCtx (C : mX) (own : String) (cc : ByteArray) (nL : Nat) (Ts : List Cond) (rm : Room) (g : mG) : Prop := match C with
  | (p, l, e, R, s, m, args, below, meth, c, Q, A) => p.tables.exec = Jvm.exec ∧ c.code = cc ∧ c.maxLocals = nL ∧ s.vm.findClass own = some m.cls ∧ (∀ w ∈ Ts, w.before args s = true) ∧ va_K g.1 vwCl (mTys g) s ∧ va_D A (mW g (fun _ _ => 0)) ∧ (∀ q, s.heap.size ≤ q → A q) ∧ meth.locks = false ∧ R = rm
/-- the machine, at pc with these locals and stack, over this memory, comes to the body's end -/
def MW (C : mX) (g : mG) (nL : Nat) (k : Nat × Nat) (pc : Nat) (lv : List (Nat × Value)) (st : List Value) (S : Mem) : Prop := match C with
  | (p, l, e, R, s, m, args, below, meth, c, Q, A) => ∀ (H : Heap) (locs : List Loc) (ls : Array Slot), lv_has ls nL lv → va_P g.1 vwCl (mW g S) H → va_S A s.heap H locs → W p l e R s m args below meth c H locs k.1 k.2 Q (F0 m pc ls st)
def mRet (C : mX) (g : mG) (S0 : Mem) (ret : Option FieldType) (Post : Option Value → Mem → Prop) (rm : Room) : Prop := match C with
  | (p, l, e, R, s, m, args, below, meth, c, Q, A) => meth.sig.returnType = ret ∧ Q = MQ below (fun _ st oc t => (∃ (r : Option Value) (S' : Mem), oc = .returned r ∧ Post r S' ∧ va_P g.1 vwCl (mW g S') t.heap) ∧ va_F (va_A (mW g S0) s.heap.size) st t) args s rm.cells rm.slots (va_A (mW g S0) s.heap.size) ∧ A = va_A (mW g S0) s.heap.size
/-- a method's contract: from this memory, with these arguments, it returns, as Post says -/
def Does (l : Launch) (y : MethodName) (ws : List Cond) (rm : Room) (g : mG) (av : List Value) (S : Mem) (Post : Option Value → Mem → Prop) : Prop :=
  ∀ sz : Nat, Met l y ws rm (va_Pc av (fun U => U.heap.size = sz ∧ va_P g.1 vwCl (mW g S) U.heap ∧ va_K g.1 vwCl (mTys g) U ∧ va_D (fun _ => True) (mW g S))) (fun _ st oc t => (∃ (r : Option Value) (S' : Mem), oc = .returned r ∧ Post r S' ∧ va_P g.1 vwCl (mW g S') t.heap) ∧ va_F (va_A (mW g S) sz) st t) rm.cells rm.slots (va_A (mW g S) sz)
theorem Does.of {l : Launch} {y : MethodName} {ws ws' : List Cond} {rm : Room} {g : mG} {av : List Value} {S : Mem} {Post : Option Value → Mem → Prop} {cc : ByteArray} {maxL : Nat} {ret : Option FieldType} {own : String} (hy : plainName y.cls = true) (hw : ws = Cond.code y cc maxL ret :: ws') (hown : y.cls = own) (hav : (lg_sl av).length ≤ maxL)
    (body : ∀ C : mX, mCtx C own cc maxL ws rm g → mRet C g S ret Post rm → MW C g maxL (0, 0) 0 (lv_args 0 av) [] S) : Does l y ws rm g av S Post := by
  intro sz
  refine Met.ofW (cc := cc) (maxL := maxL) (ret := ret) hy hw ?_
  intro p e s m args below meth c s₁ B hml hv
  obtain ⟨rfl, hsz, hP, hK, hD0⟩ := hv
  have hts := atoms_spec (ws := ws) B.pre
  have hown' : s.vm.findClass own = some m.cls := hown ▸ findClass_of_methodNamed B.named
  subst hsz
  have hD := hD0.self (sz := s.heap.size)
  rw [lg_entry_eq]
  have hl := lv_entry av (n := maxL) hav
  exact body (p, l, e, (headSpec ws rm).room, s, m, av.toArray, below, meth, c, _, va_A (mW g S) s.heap.size) ⟨B.exec, B.bytes, hml, hown', hts, hK, mD_of _ hD, fun q h => Or.inr h, B.notSynchronized, rfl⟩ ⟨B.returns, rfl, rfl⟩ s.heap [] _ hl hP va_S.rf
section MINS
variable {C : mX} {own : String} {cc : ByteArray} {nL : Nat} {Ts : List Cond} {rm : Room} {g : mG} {k : Nat × Nat} {pc : Nat} {lv : List (Nat × Value)} {st : List Value} {S : Mem}
theorem m_iconst (hC : mCtx C own cc nL Ts rm g) {n v : Int} (hd : decode cc pc = .ok (.iconst n, 1)) (hv : Int32.ofInt n = z32 v) (kk : MW C g nL k (pc + 1) lv (.int (z32 v) :: st) S) : MW C g nL k pc lv st S := by
  obtain ⟨p, l, e, R, s, m, args, below, meth, c, Q, A⟩ := C
  obtain ⟨hx, hb, hml, hown, hts, hK, hD, hA, hlk, hR⟩ := hC
  intro H locs ls hl hP hS
  exact lv_iconst hx hb hd hv (kk H locs ls hl hP hS)
theorem m_bipush (hC : mCtx C own cc nL Ts rm g) {n v : Int} (hd : decode cc pc = .ok (.bipush n, 2)) (hv : (Int8.ofInt n).toInt32 = z32 v) (kk : MW C g nL k (pc + 2) lv (.int (z32 v) :: st) S) : MW C g nL k pc lv st S := by
  obtain ⟨p, l, e, R, s, m, args, below, meth, c, Q, A⟩ := C
  obtain ⟨hx, hb, hml, hown, hts, hK, hD, hA, hlk, hR⟩ := hC
  intro H locs ls hl hP hS
  exact lv_bipush hx hb hd hv (kk H locs ls hl hP hS)
theorem m_sipush (hC : mCtx C own cc nL Ts rm g) {n v : Int} (hd : decode cc pc = .ok (.sipush n, 3)) (hv : (Int16.ofInt n).toInt32 = z32 v) (kk : MW C g nL k (pc + 3) lv (.int (z32 v) :: st) S) : MW C g nL k pc lv st S := by
  obtain ⟨p, l, e, R, s, m, args, below, meth, c, Q, A⟩ := C
  obtain ⟨hx, hb, hml, hown, hts, hK, hD, hA, hlk, hR⟩ := hC
  intro H locs ls hl hP hS
  exact lv_sipush hx hb hd hv (kk H locs ls hl hP hS)
theorem m_iload_n (hC : mCtx C own cc nL Ts rm g) {j : Fin 4} {a : Int} (hd : decode cc pc = .ok (.iload_n j, 1)) (q : Nat) (hq : lv[q]? = some ((j : Nat), .int (z32 a))) (kk : MW C g nL k (pc + 1) lv (.int (z32 a) :: st) S) : MW C g nL k pc lv st S := by
  obtain ⟨p, l, e, R, s, m, args, below, meth, c, Q, A⟩ := C
  obtain ⟨hx, hb, hml, hown, hts, hK, hD, hA, hlk, hR⟩ := hC
  intro H locs ls hl hP hS
  exact lv_iload_n hx hb hd rfl (lv_at hl q hq) (kk H locs ls hl hP hS)
theorem m_iload (hC : mCtx C own cc nL Ts rm g) {j : Nat} {a : Int} (hd : decode cc pc = .ok (.iload j, 2)) (q : Nat) (hq : lv[q]? = some ((j : Nat), .int (z32 a))) (kk : MW C g nL k (pc + 2) lv (.int (z32 a) :: st) S) : MW C g nL k pc lv st S := by
  obtain ⟨p, l, e, R, s, m, args, below, meth, c, Q, A⟩ := C
  obtain ⟨hx, hb, hml, hown, hts, hK, hD, hA, hlk, hR⟩ := hC
  intro H locs ls hl hP hS
  exact lv_iload hx hb hd (lv_at hl q hq) (kk H locs ls hl hP hS)
theorem m_aload_n (hC : mCtx C own cc nL Ts rm g) {j : Fin 4} {a : Nat} (hd : decode cc pc = .ok (.aload_n j, 1)) (q : Nat) (hq : lv[q]? = some ((j : Nat), .ref a)) (kk : MW C g nL k (pc + 1) lv (.ref a :: st) S) : MW C g nL k pc lv st S := by
  obtain ⟨p, l, e, R, s, m, args, below, meth, c, Q, A⟩ := C
  obtain ⟨hx, hb, hml, hown, hts, hK, hD, hA, hlk, hR⟩ := hC
  intro H locs ls hl hP hS
  exact lv_aload_n hx hb hd rfl (lv_at hl q hq) (kk H locs ls hl hP hS)
theorem m_aload (hC : mCtx C own cc nL Ts rm g) {j : Nat} {a : Nat} (hd : decode cc pc = .ok (.aload j, 2)) (q : Nat) (hq : lv[q]? = some ((j : Nat), .ref a)) (kk : MW C g nL k (pc + 2) lv (.ref a :: st) S) : MW C g nL k pc lv st S := by
  obtain ⟨p, l, e, R, s, m, args, below, meth, c, Q, A⟩ := C
  obtain ⟨hx, hb, hml, hown, hts, hK, hD, hA, hlk, hR⟩ := hC
  intro H locs ls hl hP hS
  exact lv_aload hx hb hd (lv_at hl q hq) (kk H locs ls hl hP hS)
theorem m_istore_n (hC : mCtx C own cc nL Ts rm g) {j : Fin 4} {a : Int} (hd : decode cc pc = .ok (.istore_n j, 1)) (lv' : Int → List (Nat × Value)) (hn : (j : Nat) < nL) (hl : ∀ x, ((j : Nat), Value.int (z32 x)) :: lv.filter (fun q => !(q.1 == (j : Nat)) && !(q.1 + 1 == (j : Nat) && q.2.category == 2)) = lv' x) (kk : ∀ x : Int, x = a → MW C g nL k (pc + 1) (lv' x) st S) : MW C g nL k pc lv (.int (z32 a) :: st) S := by
  obtain ⟨p, l, e, R, s, m, args, below, meth, c, Q, A⟩ := C
  obtain ⟨hx, hb, hml, hown, hts, hK, hD, hA, hlk, hR⟩ := hC
  intro H locs ls hl0 hP hS
  exact lv_istore_n hx hb hd rfl hl0 hn (hl a) (fun ls hl1 => kk a rfl H locs ls hl1 hP hS)
theorem m_istore (hC : mCtx C own cc nL Ts rm g) {j : Nat} {a : Int} (hd : decode cc pc = .ok (.istore j, 2)) (lv' : Int → List (Nat × Value)) (hn : (j : Nat) < nL) (hl : ∀ x, ((j : Nat), Value.int (z32 x)) :: lv.filter (fun q => !(q.1 == (j : Nat)) && !(q.1 + 1 == (j : Nat) && q.2.category == 2)) = lv' x) (kk : ∀ x : Int, x = a → MW C g nL k (pc + 2) (lv' x) st S) : MW C g nL k pc lv (.int (z32 a) :: st) S := by
  obtain ⟨p, l, e, R, s, m, args, below, meth, c, Q, A⟩ := C
  obtain ⟨hx, hb, hml, hown, hts, hK, hD, hA, hlk, hR⟩ := hC
  intro H locs ls hl0 hP hS
  exact lv_istore hx hb hd hl0 hn (hl a) (fun ls hl1 => kk a rfl H locs ls hl1 hP hS)
theorem m_astore_n (hC : mCtx C own cc nL Ts rm g) {j : Fin 4} {a : Nat} (hd : decode cc pc = .ok (.astore_n j, 1)) (lv' : List (Nat × Value)) (hn : (j : Nat) < nL) (hl : ((j : Nat), Value.ref a) :: lv.filter (fun q => !(q.1 == (j : Nat)) && !(q.1 + 1 == (j : Nat) && q.2.category == 2)) = lv') (kk : MW C g nL k (pc + 1) lv' st S) : MW C g nL k pc lv (.ref a :: st) S := by
  obtain ⟨p, l, e, R, s, m, args, below, meth, c, Q, A⟩ := C
  obtain ⟨hx, hb, hml, hown, hts, hK, hD, hA, hlk, hR⟩ := hC
  intro H locs ls hl0 hP hS
  exact lv_astore_n hx hb hd rfl hl0 hn hl (fun ls hl1 => kk H locs ls hl1 hP hS)
theorem m_astore (hC : mCtx C own cc nL Ts rm g) {j : Nat} {a : Nat} (hd : decode cc pc = .ok (.astore j, 2)) (lv' : List (Nat × Value)) (hn : (j : Nat) < nL) (hl : ((j : Nat), Value.ref a) :: lv.filter (fun q => !(q.1 == (j : Nat)) && !(q.1 + 1 == (j : Nat) && q.2.category == 2)) = lv') (kk : MW C g nL k (pc + 2) lv' st S) : MW C g nL k pc lv (.ref a :: st) S := by
  obtain ⟨p, l, e, R, s, m, args, below, meth, c, Q, A⟩ := C
  obtain ⟨hx, hb, hml, hown, hts, hK, hD, hA, hlk, hR⟩ := hC
  intro H locs ls hl0 hP hS
  exact lv_astore hx hb hd hl0 hn hl (fun ls hl1 => kk H locs ls hl1 hP hS)
theorem m_iinc (hC : mCtx C own cc nL Ts rm g) {j : Nat} {n a : Int} (hd : decode cc pc = .ok (.iinc j n, 3)) (q : Nat) (hq : lv[q]? = some (j, .int (z32 a))) (lv' : Int → List (Nat × Value)) (hn : j < nL) (hl : ∀ x, (j, Value.int (z32 x)) :: lv.filter (fun q => !(q.1 == j) && !(q.1 + 1 == j && q.2.category == 2)) = lv' x) (kk : ∀ x : Int, x = a + n → MW C g nL k (pc + 3) (lv' x) st S) : MW C g nL k pc lv st S := by
  obtain ⟨p, l, e, R, s, m, args, below, meth, c, Q, A⟩ := C
  obtain ⟨hx, hb, hml, hown, hts, hK, hD, hA, hlk, hR⟩ := hC
  intro H locs ls hl0 hP hS
  exact lv_iinc hx hb hd hl0 hq (z32_iinc a n) hn (hl (a + n)) (fun ls hl1 => kk (a + n) rfl H locs ls hl1 hP hS)
theorem m_locals {lv' : List (Nat × Value)} (ks : List Nat) (hl : lv_pick lv ks = lv') (kk : MW C g nL k pc lv' st S) : MW C g nL k pc lv st S := by
  obtain ⟨p, l, e, R, s, m, args, below, meth, c, Q, A⟩ := C
  intro H locs ls hl0 hP hS
  exact kk H locs ls (lv_sub hl0 ks hl) hP hS
theorem m_iadd (hC : mCtx C own cc nL Ts rm g) {a b : Int} (hd : decode cc pc = .ok (.iadd, 1)) (kk : MW C g nL k (pc + 1) lv (.int (z32 (a + b)) :: st) S) : MW C g nL k pc lv (.int (z32 b) :: .int (z32 a) :: st) S := by
  obtain ⟨p, l, e, R, s, m, args, below, meth, c, Q, A⟩ := C
  obtain ⟨hx, hb, hml, hown, hts, hK, hD, hA, hlk, hR⟩ := hC
  intro H locs ls hl hP hS
  have kk := kk H locs ls hl hP hS
  rw [← z32_add] at kk
  exact lv_iadd hx hb hd kk
theorem m_isub (hC : mCtx C own cc nL Ts rm g) {a b : Int} (hd : decode cc pc = .ok (.isub, 1)) (kk : MW C g nL k (pc + 1) lv (.int (z32 (a - b)) :: st) S) : MW C g nL k pc lv (.int (z32 b) :: .int (z32 a) :: st) S := by
  obtain ⟨p, l, e, R, s, m, args, below, meth, c, Q, A⟩ := C
  obtain ⟨hx, hb, hml, hown, hts, hK, hD, hA, hlk, hR⟩ := hC
  intro H locs ls hl hP hS
  have kk := kk H locs ls hl hP hS
  rw [← z32_sub] at kk
  exact lv_isub hx hb hd kk
theorem m_imul (hC : mCtx C own cc nL Ts rm g) {a b : Int} (hd : decode cc pc = .ok (.imul, 1)) (kk : MW C g nL k (pc + 1) lv (.int (z32 (a * b)) :: st) S) : MW C g nL k pc lv (.int (z32 b) :: .int (z32 a) :: st) S := by
  obtain ⟨p, l, e, R, s, m, args, below, meth, c, Q, A⟩ := C
  obtain ⟨hx, hb, hml, hown, hts, hK, hD, hA, hlk, hR⟩ := hC
  intro H locs ls hl hP hS
  have kk := kk H locs ls hl hP hS
  rw [← z32_mul] at kk
  exact lv_imul hx hb hd kk
theorem m_ineg (hC : mCtx C own cc nL Ts rm g) {a : Int} (hd : decode cc pc = .ok (.ineg, 1)) (kk : MW C g nL k (pc + 1) lv (.int (z32 (-a)) :: st) S) : MW C g nL k pc lv (.int (z32 a) :: st) S := by
  obtain ⟨p, l, e, R, s, m, args, below, meth, c, Q, A⟩ := C
  obtain ⟨hx, hb, hml, hown, hts, hK, hD, hA, hlk, hR⟩ := hC
  intro H locs ls hl hP hS
  have kk := kk H locs ls hl hP hS
  rw [← z32_neg] at kk
  exact lv_ineg hx hb hd kk
theorem m_idiv (hC : mCtx C own cc nL Ts rm g) {a b : Int} (hd : decode cc pc = .ok (.idiv, 1)) (ha : -2147483648 ≤ a ∧ a < 2147483648) (hb0 : 0 < b ∧ b < 2147483648) (kk : MW C g nL k (pc + 1) lv (.int (z32 (a.tdiv b)) :: st) S) : MW C g nL k pc lv (.int (z32 b) :: .int (z32 a) :: st) S := by
  obtain ⟨p, l, e, R, s, m, args, below, meth, c, Q, A⟩ := C
  obtain ⟨hx, hb, hml, hown, hts, hK, hD, hA, hlk, hR⟩ := hC
  intro H locs ls hl hP hS
  have kk := kk H locs ls hl hP hS
  rw [← z32_div ha hb0] at kk
  exact lv_idiv hx hb hd (by rw [z32_0, z32_eq (by omega) (by omega)]; omega) kk
theorem m_irem (hC : mCtx C own cc nL Ts rm g) {a b : Int} (hd : decode cc pc = .ok (.irem, 1)) (ha : -2147483648 ≤ a ∧ a < 2147483648) (hb0 : 0 < b ∧ b < 2147483648) (kk : MW C g nL k (pc + 1) lv (.int (z32 (a - a.tdiv b * b)) :: st) S) : MW C g nL k pc lv (.int (z32 b) :: .int (z32 a) :: st) S := by
  obtain ⟨p, l, e, R, s, m, args, below, meth, c, Q, A⟩ := C
  obtain ⟨hx, hb, hml, hown, hts, hK, hD, hA, hlk, hR⟩ := hC
  intro H locs ls hl hP hS
  have kk := kk H locs ls hl hP hS
  rw [← z32_sub, ← z32_mul, ← z32_div ha hb0] at kk
  exact lv_irem hx hb hd (by rw [z32_0, z32_eq (by omega) (by omega)]; omega) kk
theorem m_i2l (hC : mCtx C own cc nL Ts rm g) {a : Int} (hd : decode cc pc = .ok (.i2l, 1)) (ha : -2147483648 ≤ a ∧ a < 2147483648) (kk : MW C g nL k (pc + 1) lv (.long (z64 a) :: st) S) : MW C g nL k pc lv (.int (z32 a) :: st) S := by
  obtain ⟨p, l, e, R, s, m, args, below, meth, c, Q, A⟩ := C
  obtain ⟨hx, hb, hml, hown, hts, hK, hD, hA, hlk, hR⟩ := hC
  intro H locs ls hl hP hS
  exact lv_i2l hx hb hd (z32_l ha) (kk H locs ls hl hP hS)
theorem m_l2i (hC : mCtx C own cc nL Ts rm g) {a : Int} (hd : decode cc pc = .ok (.l2i, 1)) (kk : MW C g nL k (pc + 1) lv (.int (z32 a) :: st) S) : MW C g nL k pc lv (.long (z64 a) :: st) S := by
  obtain ⟨p, l, e, R, s, m, args, below, meth, c, Q, A⟩ := C
  obtain ⟨hx, hb, hml, hown, hts, hK, hD, hA, hlk, hR⟩ := hC
  intro H locs ls hl hP hS
  exact lv_l2i hx hb hd (z64_i a) (kk H locs ls hl hP hS)
theorem m_lmul (hC : mCtx C own cc nL Ts rm g) {a b : Int} (hd : decode cc pc = .ok (.lmul, 1)) (kk : MW C g nL k (pc + 1) lv (.long (z64 (a * b)) :: st) S) : MW C g nL k pc lv (.long (z64 b) :: .long (z64 a) :: st) S := by
  obtain ⟨p, l, e, R, s, m, args, below, meth, c, Q, A⟩ := C
  obtain ⟨hx, hb, hml, hown, hts, hK, hD, hA, hlk, hR⟩ := hC
  intro H locs ls hl hP hS
  have kk := kk H locs ls hl hP hS
  rw [← z64_mul] at kk
  exact lv_lmul hx hb hd kk
theorem m_ldiv (hC : mCtx C own cc nL Ts rm g) {a b : Int} (hd : decode cc pc = .ok (.ldiv, 1)) (ha : -9223372036854775808 ≤ a ∧ a < 9223372036854775808) (hb0 : 0 < b ∧ b < 9223372036854775808) (kk : MW C g nL k (pc + 1) lv (.long (z64 (a.tdiv b)) :: st) S) : MW C g nL k pc lv (.long (z64 b) :: .long (z64 a) :: st) S := by
  obtain ⟨p, l, e, R, s, m, args, below, meth, c, Q, A⟩ := C
  obtain ⟨hx, hb, hml, hown, hts, hK, hD, hA, hlk, hR⟩ := hC
  intro H locs ls hl hP hS
  have kk := kk H locs ls hl hP hS
  rw [← z64_div ha hb0] at kk
  refine lv_ldiv hx hb hd (fun q => ?_) kk
  have := congrArg Int64.toInt q
  rw [z64_toInt (by omega), Int64.toInt_zero] at this
  omega
theorem m_ldc2 (hC : mCtx C own cc nL Ts rm g) {index : Nat} {a : Int} (hd : decode cc pc = .ok (.ldc2_w index, 3)) (hm : Jvm.Cond.constantLong own index (z64 a) ∈ Ts) (kk : MW C g nL k (pc + 3) lv (.long (z64 a) :: st) S) : MW C g nL k pc lv st S := by
  obtain ⟨p, l, e, R, s, m, args, below, meth, c, Q, A⟩ := C
  obtain ⟨hx, hb, hml, hown, hts, hK, hD, hA, hlk, hR⟩ := hC
  intro H locs ls hl hP hS
  exact lv_ldc2 hx hb hown (hts _ hm) hd (kk H locs ls hl hP hS)
theorem m_dup (hC : mCtx C own cc nL Ts rm g) {va : Value} (hd : decode cc pc = .ok (.dup, 1)) (hva : va.category = 1) (kk : MW C g nL k (pc + 1) lv (va :: va :: st) S) : MW C g nL k pc lv (va :: st) S := by
  obtain ⟨p, l, e, R, s, m, args, below, meth, c, Q, A⟩ := C
  obtain ⟨hx, hb, hml, hown, hts, hK, hD, hA, hlk, hR⟩ := hC
  intro H locs ls hl hP hS
  exact lv_dup hx hb hd hva (kk H locs ls hl hP hS)
theorem m_pop (hC : mCtx C own cc nL Ts rm g) {va : Value} (hd : decode cc pc = .ok (.pop, 1)) (hva : va.category = 1) (kk : MW C g nL k (pc + 1) lv st S) : MW C g nL k pc lv (va :: st) S := by
  obtain ⟨p, l, e, R, s, m, args, below, meth, c, Q, A⟩ := C
  obtain ⟨hx, hb, hml, hown, hts, hK, hD, hA, hlk, hR⟩ := hC
  intro H locs ls hl hP hS
  exact lv_pop hx hb hd hva (kk H locs ls hl hP hS)
theorem m_dup_x1 (hC : mCtx C own cc nL Ts rm g) {va vb : Value} (hd : decode cc pc = .ok (.dup_x1, 1)) (hva : va.category = 1) (hvb : vb.category = 1) (kk : MW C g nL k (pc + 1) lv (va :: vb :: va :: st) S) : MW C g nL k pc lv (va :: vb :: st) S := by
  obtain ⟨p, l, e, R, s, m, args, below, meth, c, Q, A⟩ := C
  obtain ⟨hx, hb, hml, hown, hts, hK, hD, hA, hlk, hR⟩ := hC
  intro H locs ls hl hP hS
  exact lv_dup_x1 hx hb hd hva hvb (kk H locs ls hl hP hS)
theorem m_dup_x2 (hC : mCtx C own cc nL Ts rm g) {va vb vc : Value} (hd : decode cc pc = .ok (.dup_x2, 1)) (hva : va.category = 1) (hvb : vb.category = 1) (hvc : vc.category = 1) (kk : MW C g nL k (pc + 1) lv (va :: vb :: vc :: va :: st) S) : MW C g nL k pc lv (va :: vb :: vc :: st) S := by
  obtain ⟨p, l, e, R, s, m, args, below, meth, c, Q, A⟩ := C
  obtain ⟨hx, hb, hml, hown, hts, hK, hD, hA, hlk, hR⟩ := hC
  intro H locs ls hl hP hS
  exact lv_dup_x2 hx hb hd hva hvb hvc (kk H locs ls hl hP hS)
theorem m_dup2 (hC : mCtx C own cc nL Ts rm g) {va vb : Value} (hd : decode cc pc = .ok (.dup2, 1)) (hva : va.category = 1) (hvb : vb.category = 1) (kk : MW C g nL k (pc + 1) lv (va :: vb :: va :: vb :: st) S) : MW C g nL k pc lv (va :: vb :: st) S := by
  obtain ⟨p, l, e, R, s, m, args, below, meth, c, Q, A⟩ := C
  obtain ⟨hx, hb, hml, hown, hts, hK, hD, hA, hlk, hR⟩ := hC
  intro H locs ls hl hP hS
  exact lv_dup2_11 hx hb hd hva hvb (kk H locs ls hl hP hS)
theorem m_icmp_eq (hC : mCtx C own cc nL Ts rm g) {a b off : Int} {tgt : Nat} (hd : decode cc pc = .ok (.if_icmp .eq off, 3)) (ht : (pc : Int) + off = (tgt : Int)) (ha : -2147483648 ≤ a ∧ a < 2147483648) (hb0 : -2147483648 ≤ b ∧ b < 2147483648) (kt : a = b → MW C g nL k tgt lv st S) (kf : ¬ (a = b) → MW C g nL k (pc + 3) lv st S) : MW C g nL k pc lv (.int (z32 b) :: .int (z32 a) :: st) S := by
  obtain ⟨p, l, e, R, s, m, args, below, meth, c, Q, A⟩ := C
  obtain ⟨hx, hb, hml, hown, hts, hK, hD, hA, hlk, hR⟩ := hC
  intro H locs ls hl hP hS
  exact lv_icmp_eq hx hb hd ht (fun q => kt ((z32_eq ha hb0).mp q) H locs ls hl hP hS) (fun q => kf (fun r => q ((z32_eq ha hb0).mpr r)) H locs ls hl hP hS)
theorem m_if_eq (hC : mCtx C own cc nL Ts rm g) {a off : Int} {tgt : Nat} (hd : decode cc pc = .ok (.ifCond .eq off, 3)) (ht : (pc : Int) + off = (tgt : Int)) (ha : -2147483648 ≤ a ∧ a < 2147483648) (kt : a = 0 → MW C g nL k tgt lv st S) (kf : ¬ (a = 0) → MW C g nL k (pc + 3) lv st S) : MW C g nL k pc lv (.int (z32 a) :: st) S := by
  obtain ⟨p, l, e, R, s, m, args, below, meth, c, Q, A⟩ := C
  obtain ⟨hx, hb, hml, hown, hts, hK, hD, hA, hlk, hR⟩ := hC
  intro H locs ls hl hP hS
  have hb0 : -2147483648 ≤ (0 : Int) ∧ (0 : Int) < 2147483648 := by omega
  exact lv_if_eq hx hb hd ht (fun q => kt ((z32_eq ha hb0).mp (z32_0 ▸ q)) H locs ls hl hP hS) (fun q => kf (fun r => q (z32_0 ▸ (z32_eq ha hb0).mpr r)) H locs ls hl hP hS)
theorem m_icmp_ne (hC : mCtx C own cc nL Ts rm g) {a b off : Int} {tgt : Nat} (hd : decode cc pc = .ok (.if_icmp .ne off, 3)) (ht : (pc : Int) + off = (tgt : Int)) (ha : -2147483648 ≤ a ∧ a < 2147483648) (hb0 : -2147483648 ≤ b ∧ b < 2147483648) (kt : a ≠ b → MW C g nL k tgt lv st S) (kf : ¬ (a ≠ b) → MW C g nL k (pc + 3) lv st S) : MW C g nL k pc lv (.int (z32 b) :: .int (z32 a) :: st) S := by
  obtain ⟨p, l, e, R, s, m, args, below, meth, c, Q, A⟩ := C
  obtain ⟨hx, hb, hml, hown, hts, hK, hD, hA, hlk, hR⟩ := hC
  intro H locs ls hl hP hS
  exact lv_icmp_ne hx hb hd ht (fun q => kt ((not_congr (z32_eq ha hb0)).mp q) H locs ls hl hP hS) (fun q => kf (fun r => r ((z32_eq ha hb0).mp q)) H locs ls hl hP hS)
theorem m_if_ne (hC : mCtx C own cc nL Ts rm g) {a off : Int} {tgt : Nat} (hd : decode cc pc = .ok (.ifCond .ne off, 3)) (ht : (pc : Int) + off = (tgt : Int)) (ha : -2147483648 ≤ a ∧ a < 2147483648) (kt : a ≠ 0 → MW C g nL k tgt lv st S) (kf : ¬ (a ≠ 0) → MW C g nL k (pc + 3) lv st S) : MW C g nL k pc lv (.int (z32 a) :: st) S := by
  obtain ⟨p, l, e, R, s, m, args, below, meth, c, Q, A⟩ := C
  obtain ⟨hx, hb, hml, hown, hts, hK, hD, hA, hlk, hR⟩ := hC
  intro H locs ls hl hP hS
  have hb0 : -2147483648 ≤ (0 : Int) ∧ (0 : Int) < 2147483648 := by omega
  exact lv_if_ne hx hb hd ht (fun q => kt ((not_congr (z32_eq ha hb0)).mp (z32_0 ▸ q)) H locs ls hl hP hS) (fun q => kf (fun r => r ((z32_eq ha hb0).mp (z32_0 ▸ q))) H locs ls hl hP hS)
theorem m_icmp_lt (hC : mCtx C own cc nL Ts rm g) {a b off : Int} {tgt : Nat} (hd : decode cc pc = .ok (.if_icmp .lt off, 3)) (ht : (pc : Int) + off = (tgt : Int)) (ha : -2147483648 ≤ a ∧ a < 2147483648) (hb0 : -2147483648 ≤ b ∧ b < 2147483648) (kt : a < b → MW C g nL k tgt lv st S) (kf : ¬ (a < b) → MW C g nL k (pc + 3) lv st S) : MW C g nL k pc lv (.int (z32 b) :: .int (z32 a) :: st) S := by
  obtain ⟨p, l, e, R, s, m, args, below, meth, c, Q, A⟩ := C
  obtain ⟨hx, hb, hml, hown, hts, hK, hD, hA, hlk, hR⟩ := hC
  intro H locs ls hl hP hS
  exact lv_icmp_lt hx hb hd ht (fun q => kt ((z32_lt ha hb0).mp q) H locs ls hl hP hS) (fun q => kf (fun r => q ((z32_lt ha hb0).mpr r)) H locs ls hl hP hS)
theorem m_if_lt (hC : mCtx C own cc nL Ts rm g) {a off : Int} {tgt : Nat} (hd : decode cc pc = .ok (.ifCond .lt off, 3)) (ht : (pc : Int) + off = (tgt : Int)) (ha : -2147483648 ≤ a ∧ a < 2147483648) (kt : a < 0 → MW C g nL k tgt lv st S) (kf : ¬ (a < 0) → MW C g nL k (pc + 3) lv st S) : MW C g nL k pc lv (.int (z32 a) :: st) S := by
  obtain ⟨p, l, e, R, s, m, args, below, meth, c, Q, A⟩ := C
  obtain ⟨hx, hb, hml, hown, hts, hK, hD, hA, hlk, hR⟩ := hC
  intro H locs ls hl hP hS
  have hb0 : -2147483648 ≤ (0 : Int) ∧ (0 : Int) < 2147483648 := by omega
  exact lv_if_lt hx hb hd ht (fun q => kt ((z32_lt ha hb0).mp (z32_0 ▸ q)) H locs ls hl hP hS) (fun q => kf (fun r => q (z32_0 ▸ (z32_lt ha hb0).mpr r)) H locs ls hl hP hS)
theorem m_icmp_ge (hC : mCtx C own cc nL Ts rm g) {a b off : Int} {tgt : Nat} (hd : decode cc pc = .ok (.if_icmp .ge off, 3)) (ht : (pc : Int) + off = (tgt : Int)) (ha : -2147483648 ≤ a ∧ a < 2147483648) (hb0 : -2147483648 ≤ b ∧ b < 2147483648) (kt : b ≤ a → MW C g nL k tgt lv st S) (kf : ¬ (b ≤ a) → MW C g nL k (pc + 3) lv st S) : MW C g nL k pc lv (.int (z32 b) :: .int (z32 a) :: st) S := by
  obtain ⟨p, l, e, R, s, m, args, below, meth, c, Q, A⟩ := C
  obtain ⟨hx, hb, hml, hown, hts, hK, hD, hA, hlk, hR⟩ := hC
  intro H locs ls hl hP hS
  exact lv_icmp_ge hx hb hd ht (fun q => kt ((z32_le hb0 ha).mp q) H locs ls hl hP hS) (fun q => kf (fun r => q ((z32_le hb0 ha).mpr r)) H locs ls hl hP hS)
theorem m_if_ge (hC : mCtx C own cc nL Ts rm g) {a off : Int} {tgt : Nat} (hd : decode cc pc = .ok (.ifCond .ge off, 3)) (ht : (pc : Int) + off = (tgt : Int)) (ha : -2147483648 ≤ a ∧ a < 2147483648) (kt : 0 ≤ a → MW C g nL k tgt lv st S) (kf : ¬ (0 ≤ a) → MW C g nL k (pc + 3) lv st S) : MW C g nL k pc lv (.int (z32 a) :: st) S := by
  obtain ⟨p, l, e, R, s, m, args, below, meth, c, Q, A⟩ := C
  obtain ⟨hx, hb, hml, hown, hts, hK, hD, hA, hlk, hR⟩ := hC
  intro H locs ls hl hP hS
  have hb0 : -2147483648 ≤ (0 : Int) ∧ (0 : Int) < 2147483648 := by omega
  exact lv_if_ge hx hb hd ht (fun q => kt ((z32_le hb0 ha).mp (z32_0 ▸ q)) H locs ls hl hP hS) (fun q => kf (fun r => q (z32_0 ▸ (z32_le hb0 ha).mpr r)) H locs ls hl hP hS)
theorem m_icmp_gt (hC : mCtx C own cc nL Ts rm g) {a b off : Int} {tgt : Nat} (hd : decode cc pc = .ok (.if_icmp .gt off, 3)) (ht : (pc : Int) + off = (tgt : Int)) (ha : -2147483648 ≤ a ∧ a < 2147483648) (hb0 : -2147483648 ≤ b ∧ b < 2147483648) (kt : b < a → MW C g nL k tgt lv st S) (kf : ¬ (b < a) → MW C g nL k (pc + 3) lv st S) : MW C g nL k pc lv (.int (z32 b) :: .int (z32 a) :: st) S := by
  obtain ⟨p, l, e, R, s, m, args, below, meth, c, Q, A⟩ := C
  obtain ⟨hx, hb, hml, hown, hts, hK, hD, hA, hlk, hR⟩ := hC
  intro H locs ls hl hP hS
  exact lv_icmp_gt hx hb hd ht (fun q => kt ((z32_lt hb0 ha).mp q) H locs ls hl hP hS) (fun q => kf (fun r => q ((z32_lt hb0 ha).mpr r)) H locs ls hl hP hS)
theorem m_if_gt (hC : mCtx C own cc nL Ts rm g) {a off : Int} {tgt : Nat} (hd : decode cc pc = .ok (.ifCond .gt off, 3)) (ht : (pc : Int) + off = (tgt : Int)) (ha : -2147483648 ≤ a ∧ a < 2147483648) (kt : 0 < a → MW C g nL k tgt lv st S) (kf : ¬ (0 < a) → MW C g nL k (pc + 3) lv st S) : MW C g nL k pc lv (.int (z32 a) :: st) S := by
  obtain ⟨p, l, e, R, s, m, args, below, meth, c, Q, A⟩ := C
  obtain ⟨hx, hb, hml, hown, hts, hK, hD, hA, hlk, hR⟩ := hC
  intro H locs ls hl hP hS
  have hb0 : -2147483648 ≤ (0 : Int) ∧ (0 : Int) < 2147483648 := by omega
  exact lv_if_gt hx hb hd ht (fun q => kt ((z32_lt hb0 ha).mp (z32_0 ▸ q)) H locs ls hl hP hS) (fun q => kf (fun r => q (z32_0 ▸ (z32_lt hb0 ha).mpr r)) H locs ls hl hP hS)
theorem m_icmp_le (hC : mCtx C own cc nL Ts rm g) {a b off : Int} {tgt : Nat} (hd : decode cc pc = .ok (.if_icmp .le off, 3)) (ht : (pc : Int) + off = (tgt : Int)) (ha : -2147483648 ≤ a ∧ a < 2147483648) (hb0 : -2147483648 ≤ b ∧ b < 2147483648) (kt : a ≤ b → MW C g nL k tgt lv st S) (kf : ¬ (a ≤ b) → MW C g nL k (pc + 3) lv st S) : MW C g nL k pc lv (.int (z32 b) :: .int (z32 a) :: st) S := by
  obtain ⟨p, l, e, R, s, m, args, below, meth, c, Q, A⟩ := C
  obtain ⟨hx, hb, hml, hown, hts, hK, hD, hA, hlk, hR⟩ := hC
  intro H locs ls hl hP hS
  exact lv_icmp_le hx hb hd ht (fun q => kt ((z32_le ha hb0).mp q) H locs ls hl hP hS) (fun q => kf (fun r => q ((z32_le ha hb0).mpr r)) H locs ls hl hP hS)
theorem m_if_le (hC : mCtx C own cc nL Ts rm g) {a off : Int} {tgt : Nat} (hd : decode cc pc = .ok (.ifCond .le off, 3)) (ht : (pc : Int) + off = (tgt : Int)) (ha : -2147483648 ≤ a ∧ a < 2147483648) (kt : a ≤ 0 → MW C g nL k tgt lv st S) (kf : ¬ (a ≤ 0) → MW C g nL k (pc + 3) lv st S) : MW C g nL k pc lv (.int (z32 a) :: st) S := by
  obtain ⟨p, l, e, R, s, m, args, below, meth, c, Q, A⟩ := C
  obtain ⟨hx, hb, hml, hown, hts, hK, hD, hA, hlk, hR⟩ := hC
  intro H locs ls hl hP hS
  have hb0 : -2147483648 ≤ (0 : Int) ∧ (0 : Int) < 2147483648 := by omega
  exact lv_if_le hx hb hd ht (fun q => kt ((z32_le ha hb0).mp (z32_0 ▸ q)) H locs ls hl hP hS) (fun q => kf (fun r => q (z32_0 ▸ (z32_le ha hb0).mpr r)) H locs ls hl hP hS)
theorem m_goto (hC : mCtx C own cc nL Ts rm g) {off : Int} {tgt : Nat} (hd : decode cc pc = .ok (.goto off, 3)) (ht : (pc : Int) + off = (tgt : Int)) (kk : MW C g nL k tgt lv st S) : MW C g nL k pc lv st S := by
  obtain ⟨p, l, e, R, s, m, args, below, meth, c, Q, A⟩ := C
  obtain ⟨hx, hb, hml, hown, hts, hK, hD, hA, hlk, hR⟩ := hC
  intro H locs ls hl hP hS
  exact lv_goto hx hb hd ht (kk H locs ls hl hP hS)
theorem m_get (hC : mCtx C own cc nL Ts rm g) {ref CN : String} {T : u_T} {N ci index o j : Nat} {fs : List mF} {f : mF} (hin : ∀ w ∈ u_ws CN T N, w ∈ Ts) (hlk : Cond.fieldLink own index ref (T j).2.1 (T j).2.2.1 ∈ Ts) (hsm : ref = (T j).1) (hd : decode cc pc = .ok (.getfield index, 3)) (ho : gds[o]? = some (.inl (ci, fs))) (hc : vwCl[ci]? = some (CN, T, N)) (hj : j < N) (hf : fs[j]? = some f) (kk : MW C g nL k (pc + 3) lv (mV g S o j f :: st) S) : MW C g nL k pc lv (.ref (g.2.2 o) :: st) S := by
  obtain ⟨p, l, e, R, s, m, args, below, meth, c, Q, A⟩ := C
  obtain ⟨hx, hb, hml, hown, hts, hK, hD, hA, hlk0, hR⟩ := hC
  intro H locs ls hl hP hS
  subst hsm
  exact va_get hx hb hts hin hown hK hP o (mW_at g S ho) hc j hj (hts _ hlk) (fun _ h9 => h9) (mFs_at g S o hf) hd (kk H locs ls hl hP hS)
theorem m_put (hC : mCtx C own cc nL Ts rm g) {ref CN : String} {T : u_T} {N ci index o j : Nat} {fs : List mF} {v : Int} (hin : ∀ w ∈ u_ws CN T N, w ∈ Ts) (hlk : Cond.fieldLink own index ref (T j).2.1 (T j).2.2.1 ∈ Ts) (hsm : ref = (T j).1) (hd : decode cc pc = .ok (.putfield index, 3)) (ho : gds[o]? = some (.inl (ci, fs))) (hc : vwCl[ci]? = some (CN, T, N)) (hj : j < N) (hf : fs[j]? = some (.inr none)) (ty0 : Nat → FieldType) (hty : ∀ k, k < N → parseFieldDescriptor (T k).2.2.1 = some (ty0 k)) (hnm : ∀ a, a < N → ∀ b, b < N → a ≠ b → (T a).2.1 ≠ (T b).2.1) (hfin : (T j).2.2.2 = false) (hti : parseFieldDescriptor (T j).2.2.1 = some .int) (kk : MW C g nL k (pc + 3) lv st (mset S o j v)) : MW C g nL k pc lv (.int (z32 v) :: .ref (g.2.2 o) :: st) S := by
  obtain ⟨p, l, e, R, s, m, args, below, meth, c, Q, A⟩ := C
  obtain ⟨hx, hb, hml, hown, hts, hK, hD, hA, hlk0, hR⟩ := hC
  intro H locs ls hl hP hS
  subst hsm
  refine va_put hx hb hts hin ty0 hty hnm hown hK hP (mD_of S hD) hS o (mW_at g S ho) hc j hj (hts _ hlk) (fun _ h9 => h9) hfin hti (v := .int (z32 v)) rfl rfl (by rw [mFs_len]; exact (List.getElem?_eq_some_iff.mp hf).1) hd (fun H1 locs1 hP1 hD1 hS1 => ?_)
  refine kk H1 locs1 ls hl ?_ hS1
  rw [mFs_set fs 0 j hf, Nat.zero_add] at hP1
  rw [← mW_set ho]
  exact hP1
theorem m_getR (hC : mCtx C own cc nL Ts rm g) {ref CN : String} {T : u_T} {N ci index o j : Nat} {fs : List mF} {a : Nat} (hin : ∀ w ∈ u_ws CN T N, w ∈ Ts) (hlk : Cond.fieldLink own index ref (T j).2.1 (T j).2.2.1 ∈ Ts) (hsm : ref = (T j).1) (hd : decode cc pc = .ok (.getfield index, 3)) (ho : gds[o]? = some (.inl (ci, fs))) (hc : vwCl[ci]? = some (CN, T, N)) (hj : j < N) (hf : fs[j]? = some (.inl a)) (kk : MW C g nL k (pc + 3) lv (.ref (g.2.2 a) :: st) S) : MW C g nL k pc lv (.ref (g.2.2 o) :: st) S := by
  exact m_get hC hin hlk hsm hd ho hc hj hf kk
theorem m_getI (hC : mCtx C own cc nL Ts rm g) {ref CN : String} {T : u_T} {N ci index o j : Nat} {fs : List mF} (ji : Int) (hin : ∀ w ∈ u_ws CN T N, w ∈ Ts) (hlk : Cond.fieldLink own index ref (T j).2.1 (T j).2.2.1 ∈ Ts) (hsm : ref = (T j).1) (hd : decode cc pc = .ok (.getfield index, 3)) (ho : gds[o]? = some (.inl (ci, fs))) (hc : vwCl[ci]? = some (CN, T, N)) (hj : j < N) (hf : fs[j]? = some (.inr none)) (hji : ((j : Nat) : Int) = ji) (kk : MW C g nL k (pc + 3) lv (.int (z32 (S o ji)) :: st) S) : MW C g nL k pc lv (.ref (g.2.2 o) :: st) S := by
  subst hji
  exact m_get hC hin hlk hsm hd ho hc hj hf kk
theorem m_getK (hC : mCtx C own cc nL Ts rm g) {ref CN : String} {T : u_T} {N ci index o j : Nat} {fs : List mF} {v : Int} (hin : ∀ w ∈ u_ws CN T N, w ∈ Ts) (hlk : Cond.fieldLink own index ref (T j).2.1 (T j).2.2.1 ∈ Ts) (hsm : ref = (T j).1) (hd : decode cc pc = .ok (.getfield index, 3)) (ho : gds[o]? = some (.inl (ci, fs))) (hc : vwCl[ci]? = some (CN, T, N)) (hj : j < N) (hf : fs[j]? = some (.inr (some v))) (kk : MW C g nL k (pc + 3) lv (.int (z32 v) :: st) S) : MW C g nL k pc lv (.ref (g.2.2 o) :: st) S := by
  exact m_get hC hin hlk hsm hd ho hc hj hf kk
theorem m_putI (hC : mCtx C own cc nL Ts rm g) {ref CN : String} {T : u_T} {N ci index o j : Nat} {fs : List mF} {v : Int} (ji : Int) (hin : ∀ w ∈ u_ws CN T N, w ∈ Ts) (hlk : Cond.fieldLink own index ref (T j).2.1 (T j).2.2.1 ∈ Ts) (hsm : ref = (T j).1) (hd : decode cc pc = .ok (.putfield index, 3)) (ho : gds[o]? = some (.inl (ci, fs))) (hc : vwCl[ci]? = some (CN, T, N)) (hj : j < N) (hf : fs[j]? = some (.inr none)) (ty0 : Nat → FieldType) (hty : ∀ k, k < N → parseFieldDescriptor (T k).2.2.1 = some (ty0 k)) (hnm : ∀ a, a < N → ∀ b, b < N → a ≠ b → (T a).2.1 ≠ (T b).2.1) (hfin : (T j).2.2.2 = false) (hti : parseFieldDescriptor (T j).2.2.1 = some .int) (hji : ((j : Nat) : Int) = ji) (kk : MW C g nL k (pc + 3) lv st (mset S o ji v)) : MW C g nL k pc lv (.int (z32 v) :: .ref (g.2.2 o) :: st) S := by
  subst hji
  exact m_put hC hin hlk hsm hd ho hc hj hf ty0 hty hnm hfin hti kk
theorem m_iaload (hC : mCtx C own cc nL Ts rm g) {o n : Nat} {i : Int} (ho : gds[o]? = some (.inr (.inl (0, n)))) (hd : decode cc pc = .ok (.iaload, 1)) (h0 : 0 ≤ i) (h1 : i < (n : Int)) (hn : n < 2147483648) (kk : MW C g nL k (pc + 1) lv (.int (z32 (S o i)) :: st) S) : MW C g nL k pc lv (.int (z32 i) :: .ref (g.2.2 o) :: st) S := by
  obtain ⟨p, l, e, R, s, m, args, below, meth, c, Q, A⟩ := C
  obtain ⟨hx, hb, hml, hown, hts, hK, hD, hA, hlk, hR⟩ := hC
  intro H locs ls hl hP hS
  refine va_iald (f := fun j => z32 (S o j)) hx hb hK hP o 0 (mW_at g S ho) rfl (z32_in h0 h1 hn) hd ?_
  have kk := kk H locs ls hl hP hS
  rw [z32_cl h0 (by omega)]
  rw [Int.toNat_of_nonneg h0]
  exact kk
theorem m_baload (hC : mCtx C own cc nL Ts rm g) {o n : Nat} {i : Int} (ho : gds[o]? = some (.inr (.inl (1, n)))) (hd : decode cc pc = .ok (.baload, 1)) (h0 : 0 ≤ i) (h1 : i < (n : Int)) (hn : n < 2147483648) (kk : MW C g nL k (pc + 1) lv (.int (z32 (S o i)) :: st) S) : MW C g nL k pc lv (.int (z32 i) :: .ref (g.2.2 o) :: st) S := by
  obtain ⟨p, l, e, R, s, m, args, below, meth, c, Q, A⟩ := C
  obtain ⟨hx, hb, hml, hown, hts, hK, hD, hA, hlk, hR⟩ := hC
  intro H locs ls hl hP hS
  refine va_zald (f := fun j => z32 (S o j)) hx hb hK hP o 1 (mW_at g S ho) rfl (z32_in h0 h1 hn) hd ?_
  have kk := kk H locs ls hl hP hS
  rw [z32_cl h0 (by omega)]
  rw [Int.toNat_of_nonneg h0]
  exact kk
theorem m_laload (hC : mCtx C own cc nL Ts rm g) {o n : Nat} {i : Int} (ho : gds[o]? = some (.inr (.inr n))) (hd : decode cc pc = .ok (.laload, 1)) (h0 : 0 ≤ i) (h1 : i < (n : Int)) (hn : n < 2147483648) (kk : MW C g nL k (pc + 1) lv (.long (z64 (S o i)) :: st) S) : MW C g nL k pc lv (.int (z32 i) :: .ref (g.2.2 o) :: st) S := by
  obtain ⟨p, l, e, R, s, m, args, below, meth, c, Q, A⟩ := C
  obtain ⟨hx, hb, hml, hown, hts, hK, hD, hA, hlk, hR⟩ := hC
  intro H locs ls hl hP hS
  refine va_lald (f := fun j => z64 (S o j)) hx hb hK hP o 2 (mW_at g S ho) rfl (z32_in h0 h1 hn) hd ?_
  have kk := kk H locs ls hl hP hS
  rw [z32_cl h0 (by omega)]
  rw [Int.toNat_of_nonneg h0]
  exact kk
theorem m_iastore (hC : mCtx C own cc nL Ts rm g) {o n : Nat} {i : Int} {v : Int} (ho : gds[o]? = some (.inr (.inl (0, n)))) (hd : decode cc pc = .ok (.iastore, 1)) (h0 : 0 ≤ i) (h1 : i < (n : Int)) (hn : n < 2147483648) (kk : MW C g nL k (pc + 1) lv st (mset S o i v)) : MW C g nL k pc lv (.int (z32 v) :: .int (z32 i) :: .ref (g.2.2 o) :: st) S := by
  obtain ⟨p, l, e, R, s, m, args, below, meth, c, Q, A⟩ := C
  obtain ⟨hx, hb, hml, hown, hts, hK, hD, hA, hlk, hR⟩ := hC
  intro H locs ls hl hP hS
  refine va_iast (f := fun j => z32 (S o j)) hx hb hK hP (mD_of S hD) hS o 0 (mW_at g S ho) rfl (z32_in h0 h1 hn) hd (fun H1 locs1 hP1 hD1 hS1 => ?_)
  refine kk H1 locs1 ls hl ?_ hS1
  rw [z32_cl h0 (by omega), ← mE_row h0, mW_set ho] at hP1
  exact hP1
theorem m_bastore (hC : mCtx C own cc nL Ts rm g) {o n : Nat} {i : Int} {v : Int} (ho : gds[o]? = some (.inr (.inl (1, n)))) (hd : decode cc pc = .ok (.bastore, 1)) (h0 : 0 ≤ i) (h1 : i < (n : Int)) (hn : n < 2147483648) (hv : v = 0 ∨ v = 1) (kk : MW C g nL k (pc + 1) lv st (mset S o i v)) : MW C g nL k pc lv (.int (z32 v) :: .int (z32 i) :: .ref (g.2.2 o) :: st) S := by
  obtain ⟨p, l, e, R, s, m, args, below, meth, c, Q, A⟩ := C
  obtain ⟨hx, hb, hml, hown, hts, hK, hD, hA, hlk, hR⟩ := hC
  intro H locs ls hl hP hS
  refine va_zast (f := fun j => z32 (S o j)) hx hb hK hP (mD_of S hD) hS o 1 (mW_at g S ho) rfl (z32_in h0 h1 hn) hd (fun H1 locs1 hP1 hD1 hS1 => ?_)
  refine kk H1 locs1 ls hl ?_ hS1
  rw [z32_cl h0 (by omega), show vp_nar .boolean (z32 v) = z32 v by rcases hv with rfl | rfl <;> decide, ← mE_row h0, mW_set ho] at hP1
  exact hP1
theorem m_lastore (hC : mCtx C own cc nL Ts rm g) {o n : Nat} {i : Int} {v : Int} (ho : gds[o]? = some (.inr (.inr n))) (hd : decode cc pc = .ok (.lastore, 1)) (h0 : 0 ≤ i) (h1 : i < (n : Int)) (hn : n < 2147483648) (kk : MW C g nL k (pc + 1) lv st (mset S o i v)) : MW C g nL k pc lv (.long (z64 v) :: .int (z32 i) :: .ref (g.2.2 o) :: st) S := by
  obtain ⟨p, l, e, R, s, m, args, below, meth, c, Q, A⟩ := C
  obtain ⟨hx, hb, hml, hown, hts, hK, hD, hA, hlk, hR⟩ := hC
  intro H locs ls hl hP hS
  refine va_last (f := fun j => z64 (S o j)) hx hb hK hP (mD_of S hD) hS o 2 (mW_at g S ho) rfl (z32_in h0 h1 hn) hd (fun H1 locs1 hP1 hD1 hS1 => ?_)
  refine kk H1 locs1 ls hl ?_ hS1
  rw [z32_cl h0 (by omega), ← mE_rowL h0, mW_set ho] at hP1
  exact hP1
theorem m_alen (hC : mCtx C own cc nL Ts rm g) {o t n : Nat} (ho : gds[o]? = some (.inr (.inl (t, n)))) (ht : t < 3) (hd : decode cc pc = .ok (.arraylength, 1)) (kk : MW C g nL k (pc + 1) lv (.int (z32 (n : Int)) :: st) S) : MW C g nL k pc lv (.ref (g.2.2 o) :: st) S := by
  obtain ⟨p, l, e, R, s, m, args, below, meth, c, Q, A⟩ := C
  obtain ⟨hx, hb, hml, hown, hts, hK, hD, hA, hlk, hR⟩ := hC
  intro H locs ls hl hP hS
  have htt : ∃ ty, (mTys g)[t]? = some (g.2.1 t, ty) := by
    rcases (show t = 0 ∨ t = 1 ∨ t = 2 by omega) with rfl | rfl | rfl <;> exact ⟨_, rfl⟩
  obtain ⟨ty, htt⟩ := htt
  exact va_alen hx hb hK hP o t (mW_at g S ho) htt (v := z32 (n : Int)) (Int32.ofInt_eq_ofNat.symm) hd (kk H locs ls hl hP hS)
/-- behind a call: any answer that the contract allows -/
theorem m_after {mc ms : Nat} {As : Array Value} {rest st0 : List Value} {S : Mem} {Post : Option Value → Mem → Prop} {p : Program} {l : Launch} {e : Env} {R : Room} {s : State} {m : MethodId} {args : Array Value} {below : List Frame} {meth : Method} {c : Code} {Q : State → Prop} {A : Nat → Prop} {H : Heap} {locs : List Loc} {ls : Array Slot} {cells slots : Nat}
    (hD : va_D A (mW g S)) (hA : ∀ q, s.heap.size ≤ q → A q) (hS : va_S A s.heap H locs)
    (hr : va_Run p l e R s m args below meth c H locs cells slots mc ms (F0 m pc ls st0) rest ((fun _ st oc t => (∃ (r : Option Value) (S' : Mem), oc = .returned r ∧ Post r S' ∧ va_P g.1 vwCl (mW g S') t.heap) ∧ va_F (va_A (mW g S) H.size) st t : Array Value → State → Outcome → State → Prop) As) (va_A (mW g S) H.size))
    (kk : ∀ (r : Option Value) (S' : Mem) (H1 : Heap) (locs1 : List Loc), Post r S' → va_P g.1 vwCl (mW g S') H1 → va_S A s.heap H1 locs1 → W p l e R s m args below meth c H1 locs1 (cells + mc) (slots + ms) Q (F0 m (pc + 3) ls (r.toList ++ rest))) : W p l e R s m args below meth c H locs cells slots Q (F0 m pc ls st0) := by
  intro T hT X
  obtain ⟨v, st₀, t, T', L, h0, X', hL, e1, e2, ⟨⟨r, S', hv, hp, hb⟩, hz, hk⟩, st⟩ := hr T hT X
  have hF := mA_free hD hS hA
  cases hv
  rw [h0] at hz hk
  obtain ⟨t2, a1, b1⟩ := kk v S' T'.heap (locs ++ L) hp (by rw [e1]; exact hb)
    ⟨Nat.le_trans hS.1 (by rw [e1]; exact hz), fun q h1 h2 => by rw [e1, hk q (Nat.lt_of_lt_of_le h1 hS.1) (fun z => h2 (hF q z))]; exact hS.2.1 q h1 h2, fun q hq => by
      rcases List.mem_append.mp hq with h | h
      · exact hS.2.2 q h
      · exact hF _ (hL q h)⟩ T' rfl X'
  exact ⟨t2, st t2 a1, b1⟩
theorem m_blind {av : List Value} {sz : Nat} : FrameBlind (va_Pc av (fun U => U.heap.size = sz ∧ va_P g.1 vwCl (mW g S) U.heap ∧ va_K g.1 vwCl (mTys g) U ∧ va_D (fun _ => True) (mW g S))) := fun a U gg mk q => by
  obtain ⟨q0, q1, qP, qK, qD⟩ := q
  exact ⟨q0, q1, qP, va_K.moved (u := U) (U := U.calling gg mk a) (Vm.Alike.refl U.vm) qK, qD⟩
/-- a call of an object's method -/
theorem m_callV {y : MethodName} {ws ws' : List Cond} {rm' : Room} {index maxL n o ci N : Nat} {As rest : List Value} {Post : Option Value → Mem → Prop} {bytes : ByteArray} {ret : Option FieldType} {CN : String} {T : u_T} {fs : List mF}
    (hC : mCtx C own cc nL Ts rm g) (hM : ∀ l, Does l y ws rm' g (.ref (g.2.2 o) :: As) S Post) (hG : GoodIn Ts (wsV own index CN y ws)) (hw : ws = Cond.code y bytes maxL ret :: ws') (hd : decode cc pc = .ok (.invokevirtual index, 3))
    (ho : gds[o]? = some (.inl (ci, fs))) (hc : vwCl[ci]? = some (CN, T, N))
    (hy : y.cls = CN ∧ y.cls ≠ "java/lang/invoke/MethodHandle" ∧ y.cls ≠ "java/lang/invoke/VarHandle" ∧ (parseMethodDescriptor y.desc).map (fun d => d.parameters.length) = some n) (hR : rm'.frames + 1 ≤ rm.frames ∧ 8 + (maxL + 11) + rm'.locals ≤ rm.locals) (hn : As.length = n) (hst : (rest.map fun v => v.category).sum ≤ 8) (hk : k.1 + rm'.cells ≤ rm.cells ∧ k.2 + rm'.slots ≤ rm.slots) (hstk : st = As.reverse ++ .ref (g.2.2 o) :: rest)
    (kk : ∀ r S', Post r S' → MW C g nL (k.1 + rm'.cells, k.2 + rm'.slots) (pc + 3) lv (r.toList ++ rest) S') : MW C g nL k pc lv st S := by
  obtain ⟨p, l, e, R, s, m, args, below, meth, c, Q, A⟩ := C
  obtain ⟨hx, hb, hml, hown, hts, hK, hD, hA, hlk, hRR⟩ := hC
  intro H locs ls hl hP hS
  subst hRR
  refine m_after (As := (Value.ref (g.2.2 o) :: As).toArray) (mD_of S hD) hA hS (va_runV (As := As) (rest := rest) ⟨hx, hb, hml, hown, hts⟩ (hM l H.size) (cwV n hts hG hw rfl rfl hy hR) ⟨m_blind, va_recv hK hP hc (mW_at g S ho), fun U hU hW => ⟨rfl, by rw [hU], by rw [hU]; exact hP, va_K.moved hW.alike hK, (mD_of S hD).weaken (fun _ _ _ _ => trivial)⟩⟩ rfl hn hl.1 hstk (lv_room hst) hd hk) (fun r S' H1 locs1 hp hP1 hS1 => ?_)
  exact kk r S' hp H1 locs1 ls hl hP1 hS1
/-- a call of a static method -/
theorem m_callS {y : MethodName} {ws ws' : List Cond} {rm' : Room} {index maxL n : Nat} {As rest : List Value} {Post : Option Value → Mem → Prop} {bytes : ByteArray} {ret : Option FieldType}
    (hC : mCtx C own cc nL Ts rm g) (hM : ∀ l, Does l y ws rm' g As S Post) (hG : GoodIn Ts (va_wsS own index y ws)) (hw : ws = Cond.code y bytes maxL ret :: ws') (hd : decode cc pc = .ok (.invokestatic index, 3))
    (hy : y.cls = own ∧ y.cls ≠ "java/lang/invoke/MethodHandle" ∧ y.cls ≠ "java/lang/invoke/VarHandle" ∧ (parseMethodDescriptor y.desc).map (fun d => d.parameters.length) = some n) (hR : rm'.frames + 1 ≤ rm.frames ∧ 8 + (maxL + 11) + rm'.locals ≤ rm.locals) (hn : As.length = n) (hst : (rest.map fun v => v.category).sum ≤ 8) (hk : k.1 + rm'.cells ≤ rm.cells ∧ k.2 + rm'.slots ≤ rm.slots) (hstk : st = As.reverse ++ rest)
    (kk : ∀ r S', Post r S' → MW C g nL (k.1 + rm'.cells, k.2 + rm'.slots) (pc + 3) lv (r.toList ++ rest) S') : MW C g nL k pc lv st S := by
  obtain ⟨p, l, e, R, s, m, args, below, meth, c, Q, A⟩ := C
  obtain ⟨hx, hb, hml, hown, hts, hK, hD, hA, hlk, hRR⟩ := hC
  intro H locs ls hl hP hS
  subst hRR
  have hG' : GoodIn Ts (wsS own index y ws) := by
    have h1 := hy.1
    intro w hw
    refine hG w ?_
    unfold wsS at hw
    unfold va_wsS
    rw [h1]
    exact hw
  refine m_after (As := As.toArray) (mD_of S hD) hA hS (va_runS (As := As) (rest := rest) ⟨hx, hb, hml, hown, hts⟩ (hM l H.size) (cwS n hts hG' hw rfl rfl hy hR) ⟨m_blind, fun U hU hW => ⟨rfl, by rw [hU], by rw [hU]; exact hP, va_K.moved hW.alike hK, (mD_of S hD).weaken (fun _ _ _ _ => trivial)⟩⟩ rfl hn hl.1 hstk (lv_room hst) hd hk) (fun r S' H1 locs1 hp hP1 hS1 => ?_)
  exact kk r S' hp H1 locs1 ls hl hP1 hS1
theorem m_min (hC : mCtx C own cc nL Ts rm g) {index : Nat} {a b : Int} (hlink : Cond.methodLink own index Lib.Math.min.name ∈ Ts) (hstat : Cond.static Lib.Math.min.name ∈ Ts) (hini : Cond.initialized "java/lang/Math" ∈ Ts) (hcode : Cond.code Lib.Math.min.name Lib.Math.min.code 2 (some .int) ∈ Ts) (hd : decode cc pc = .ok (.invokestatic index, 3)) (hf : 1 ≤ rm.frames) (hlo : (st.map fun v => v.category).sum + 13 ≤ rm.locals) (hk : k.1 ≤ rm.cells ∧ k.2 ≤ rm.slots)
    (ha : -2147483648 ≤ a ∧ a < 2147483648) (hb0 : -2147483648 ≤ b ∧ b < 2147483648) (kk : MW C g nL k (pc + 3) lv (.int (z32 (if b < a then b else a)) :: st) S) : MW C g nL k pc lv (.int (z32 b) :: .int (z32 a) :: st) S := by
  obtain ⟨p, l, e, R, s, m, args, below, meth, c, Q, A⟩ := C
  obtain ⟨hx, hb, hml, hown, hts, hK, hD, hA, hlk, hRR⟩ := hC
  intro H locs ls hl hP hS
  subst hRR
  refine va_mmin hx hb (hml.trans hl.1.symm) hown (hts _ hlink) (hts _ hstat) (hts _ hini) (hts _ hcode) hf hlo hk.1 hk.2 hd ?_
  have kk := kk H locs ls hl hP hS
  rw [show (if z32 b < z32 a then z32 b else z32 a) = z32 (if b < a then b else a) by
    by_cases h : b < a
    · rw [if_pos h, if_pos ((z32_lt hb0 ha).mpr h)]
    · rw [if_neg h, if_neg (fun q => h ((z32_lt hb0 ha).mp q))]]
  exact kk
/-- ends -/
theorem m_iret (hC : mCtx C own cc nL Ts rm g) {S0 : Mem} {ret : FieldType} {Post : Option Value → Mem → Prop} {a : Int} (hR : mRet C g S0 (some ret) Post rm) (hret : ret = .int ∨ (ret = .boolean ∧ (a = 0 ∨ a = 1))) (hd : decode cc pc = .ok (.ireturn, 1)) (hk : k.1 ≤ rm.cells ∧ k.2 ≤ rm.slots) (hp : Post (some (.int (z32 a))) S) : MW C g nL k pc lv [.int (z32 a)] S := by
  obtain ⟨p, l, e, R, s, m, args, below, meth, c, Q, A⟩ := C
  obtain ⟨hx, hb, hml, hown, hts, hK, hD, hA, hlk, hRR⟩ := hC
  obtain ⟨hr, rfl, rfl⟩ := hR
  intro H locs ls hl hP hS
  have hn : narrow ret (.int (z32 a)) = .int (z32 a) := by
    rcases hret with rfl | ⟨rfl, rfl | rfl⟩
    · rfl
    · decide
    · decide
  refine W.widen hk.1 hk.2 (W.zret hx hb hr hn (fun t ht hW => ⟨⟨_, S, rfl, hp, by rw [ht]; exact hP⟩, hS.F ht⟩) hS.2.2 hd hlk)
theorem m_vret (hC : mCtx C own cc nL Ts rm g) {S0 : Mem} {Post : Option Value → Mem → Prop} (hR : mRet C g S0 none Post rm) (hd : decode cc pc = .ok (.return_, 1)) (hk : k.1 ≤ rm.cells ∧ k.2 ≤ rm.slots) (hp : Post none S) : MW C g nL k pc lv [] S := by
  obtain ⟨p, l, e, R, s, m, args, below, meth, c, Q, A⟩ := C
  obtain ⟨hx, hb, hml, hown, hts, hK, hD, hA, hlk, hRR⟩ := hC
  obtain ⟨hr, rfl, rfl⟩ := hR
  intro H locs ls hl hP hS
  refine W.widen hk.1 hk.2 (W.vret hx hb hr (fun t ht hW => ⟨⟨_, S, rfl, hp, by rw [ht]; exact hP⟩, hS.F ht⟩) hS.2.2 hd hlk)
def PI (v : Int) (S1 : Mem) : Option Value → Mem → Prop := fun r S' => r = some (.int (z32 v)) ∧ S' = S1
def PV (S1 : Mem) : Option Value → Mem → Prop := fun r S' => r = none ∧ S' = S1
def PIx (P : Int → Mem → Prop) : Option Value → Mem → Prop := fun r S' => ∃ v, r = some (.int (z32 v)) ∧ P v S'
def PVx (P : Mem → Prop) : Option Value → Mem → Prop := fun r S' => r = none ∧ P S'
theorem m_callVi {y : MethodName} {ws ws' : List Cond} {fr lo index maxL n : Nat} {o ci N : Nat} {CN : String} {T : u_T} {fs : List mF} {As rest : List Value} {v : Int} {S1 : Mem} {bytes : ByteArray} {ret : Option FieldType}
    (hC : mCtx C own cc nL Ts rm g) (hM : ∀ l, Does l y ws ({ frames := fr, cells := 0, slots := 0, locals := lo } : Room) g (.ref (g.2.2 o) :: As) S (PI v S1)) (hG : GoodIn Ts (wsV own index CN y ws)) (hw : ws = Cond.code y bytes maxL ret :: ws') (hd : decode cc pc = .ok (.invokevirtual index, 3)) (ho : gds[o]? = some (.inl (ci, fs))) (hc : vwCl[ci]? = some (CN, T, N)) 
    (hy : y.cls = CN ∧ y.cls ≠ "java/lang/invoke/MethodHandle" ∧ y.cls ≠ "java/lang/invoke/VarHandle" ∧ (parseMethodDescriptor y.desc).map (fun d => d.parameters.length) = some n) (hR : fr + 1 ≤ rm.frames ∧ 8 + (maxL + 11) + lo ≤ rm.locals) (hn : As.length = n) (hst : (rest.map fun v => v.category).sum ≤ 8) (hk : k.1 ≤ rm.cells ∧ k.2 ≤ rm.slots) (hstk : st = As.reverse ++ .ref (g.2.2 o) :: rest)
    (kk : MW C g nL k (pc + 3) lv (.int (z32 v) :: rest) S1) : MW C g nL k pc lv st S := by
  refine m_callV hC hM hG hw hd ho hc hy hR hn hst hk hstk (fun r S' hp => ?_)
  obtain ⟨rfl, rfl⟩ := hp
  exact kk
theorem m_callVv {y : MethodName} {ws ws' : List Cond} {fr lo index maxL n : Nat} {o ci N : Nat} {CN : String} {T : u_T} {fs : List mF} {As rest : List Value} {S1 : Mem} {bytes : ByteArray} {ret : Option FieldType}
    (hC : mCtx C own cc nL Ts rm g) (hM : ∀ l, Does l y ws ({ frames := fr, cells := 0, slots := 0, locals := lo } : Room) g (.ref (g.2.2 o) :: As) S (PV S1)) (hG : GoodIn Ts (wsV own index CN y ws)) (hw : ws = Cond.code y bytes maxL ret :: ws') (hd : decode cc pc = .ok (.invokevirtual index, 3)) (ho : gds[o]? = some (.inl (ci, fs))) (hc : vwCl[ci]? = some (CN, T, N)) 
    (hy : y.cls = CN ∧ y.cls ≠ "java/lang/invoke/MethodHandle" ∧ y.cls ≠ "java/lang/invoke/VarHandle" ∧ (parseMethodDescriptor y.desc).map (fun d => d.parameters.length) = some n) (hR : fr + 1 ≤ rm.frames ∧ 8 + (maxL + 11) + lo ≤ rm.locals) (hn : As.length = n) (hst : (rest.map fun v => v.category).sum ≤ 8) (hk : k.1 ≤ rm.cells ∧ k.2 ≤ rm.slots) (hstk : st = As.reverse ++ .ref (g.2.2 o) :: rest)
    (kk : MW C g nL k (pc + 3) lv rest S1) : MW C g nL k pc lv st S := by
  refine m_callV hC hM hG hw hd ho hc hy hR hn hst hk hstk (fun r S' hp => ?_)
  obtain ⟨rfl, rfl⟩ := hp
  exact kk
theorem m_callVix {y : MethodName} {ws ws' : List Cond} {fr lo index maxL n : Nat} {o ci N : Nat} {CN : String} {T : u_T} {fs : List mF} {As rest : List Value} {P : Int → Mem → Prop} {bytes : ByteArray} {ret : Option FieldType}
    (hC : mCtx C own cc nL Ts rm g) (hM : ∀ l, Does l y ws ({ frames := fr, cells := 0, slots := 0, locals := lo } : Room) g (.ref (g.2.2 o) :: As) S (PIx P)) (hG : GoodIn Ts (wsV own index CN y ws)) (hw : ws = Cond.code y bytes maxL ret :: ws') (hd : decode cc pc = .ok (.invokevirtual index, 3)) (ho : gds[o]? = some (.inl (ci, fs))) (hc : vwCl[ci]? = some (CN, T, N)) 
    (hy : y.cls = CN ∧ y.cls ≠ "java/lang/invoke/MethodHandle" ∧ y.cls ≠ "java/lang/invoke/VarHandle" ∧ (parseMethodDescriptor y.desc).map (fun d => d.parameters.length) = some n) (hR : fr + 1 ≤ rm.frames ∧ 8 + (maxL + 11) + lo ≤ rm.locals) (hn : As.length = n) (hst : (rest.map fun v => v.category).sum ≤ 8) (hk : k.1 ≤ rm.cells ∧ k.2 ≤ rm.slots) (hstk : st = As.reverse ++ .ref (g.2.2 o) :: rest)
    (kk : ∀ v S1, P v S1 → MW C g nL k (pc + 3) lv (.int (z32 v) :: rest) S1) : MW C g nL k pc lv st S := by
  refine m_callV hC hM hG hw hd ho hc hy hR hn hst hk hstk (fun r S' hp => ?_)
  obtain ⟨v, rfl, hp⟩ := hp
  exact kk v S' hp
theorem m_callVvx {y : MethodName} {ws ws' : List Cond} {fr lo index maxL n : Nat} {o ci N : Nat} {CN : String} {T : u_T} {fs : List mF} {As rest : List Value} {P : Mem → Prop} {bytes : ByteArray} {ret : Option FieldType}
    (hC : mCtx C own cc nL Ts rm g) (hM : ∀ l, Does l y ws ({ frames := fr, cells := 0, slots := 0, locals := lo } : Room) g (.ref (g.2.2 o) :: As) S (PVx P)) (hG : GoodIn Ts (wsV own index CN y ws)) (hw : ws = Cond.code y bytes maxL ret :: ws') (hd : decode cc pc = .ok (.invokevirtual index, 3)) (ho : gds[o]? = some (.inl (ci, fs))) (hc : vwCl[ci]? = some (CN, T, N)) 
    (hy : y.cls = CN ∧ y.cls ≠ "java/lang/invoke/MethodHandle" ∧ y.cls ≠ "java/lang/invoke/VarHandle" ∧ (parseMethodDescriptor y.desc).map (fun d => d.parameters.length) = some n) (hR : fr + 1 ≤ rm.frames ∧ 8 + (maxL + 11) + lo ≤ rm.locals) (hn : As.length = n) (hst : (rest.map fun v => v.category).sum ≤ 8) (hk : k.1 ≤ rm.cells ∧ k.2 ≤ rm.slots) (hstk : st = As.reverse ++ .ref (g.2.2 o) :: rest)
    (kk : ∀ S1, P S1 → MW C g nL k (pc + 3) lv rest S1) : MW C g nL k pc lv st S := by
  refine m_callV hC hM hG hw hd ho hc hy hR hn hst hk hstk (fun r S' hp => ?_)
  obtain ⟨rfl, hp⟩ := hp
  exact kk S' hp
theorem m_callSi {y : MethodName} {ws ws' : List Cond} {fr lo index maxL n : Nat} {As rest : List Value} {v : Int} {S1 : Mem} {bytes : ByteArray} {ret : Option FieldType}
    (hC : mCtx C own cc nL Ts rm g) (hM : ∀ l, Does l y ws ({ frames := fr, cells := 0, slots := 0, locals := lo } : Room) g As S (PI v S1)) (hG : GoodIn Ts (va_wsS own index y ws)) (hw : ws = Cond.code y bytes maxL ret :: ws') (hd : decode cc pc = .ok (.invokestatic index, 3)) 
    (hy : y.cls = own ∧ y.cls ≠ "java/lang/invoke/MethodHandle" ∧ y.cls ≠ "java/lang/invoke/VarHandle" ∧ (parseMethodDescriptor y.desc).map (fun d => d.parameters.length) = some n) (hR : fr + 1 ≤ rm.frames ∧ 8 + (maxL + 11) + lo ≤ rm.locals) (hn : As.length = n) (hst : (rest.map fun v => v.category).sum ≤ 8) (hk : k.1 ≤ rm.cells ∧ k.2 ≤ rm.slots) (hstk : st = As.reverse ++ rest)
    (kk : MW C g nL k (pc + 3) lv (.int (z32 v) :: rest) S1) : MW C g nL k pc lv st S := by
  refine m_callS hC hM hG hw hd hy hR hn hst hk hstk (fun r S' hp => ?_)
  obtain ⟨rfl, rfl⟩ := hp
  exact kk
theorem m_callSv {y : MethodName} {ws ws' : List Cond} {fr lo index maxL n : Nat} {As rest : List Value} {S1 : Mem} {bytes : ByteArray} {ret : Option FieldType}
    (hC : mCtx C own cc nL Ts rm g) (hM : ∀ l, Does l y ws ({ frames := fr, cells := 0, slots := 0, locals := lo } : Room) g As S (PV S1)) (hG : GoodIn Ts (va_wsS own index y ws)) (hw : ws = Cond.code y bytes maxL ret :: ws') (hd : decode cc pc = .ok (.invokestatic index, 3)) 
    (hy : y.cls = own ∧ y.cls ≠ "java/lang/invoke/MethodHandle" ∧ y.cls ≠ "java/lang/invoke/VarHandle" ∧ (parseMethodDescriptor y.desc).map (fun d => d.parameters.length) = some n) (hR : fr + 1 ≤ rm.frames ∧ 8 + (maxL + 11) + lo ≤ rm.locals) (hn : As.length = n) (hst : (rest.map fun v => v.category).sum ≤ 8) (hk : k.1 ≤ rm.cells ∧ k.2 ≤ rm.slots) (hstk : st = As.reverse ++ rest)
    (kk : MW C g nL k (pc + 3) lv rest S1) : MW C g nL k pc lv st S := by
  refine m_callS hC hM hG hw hd hy hR hn hst hk hstk (fun r S' hp => ?_)
  obtain ⟨rfl, rfl⟩ := hp
  exact kk
theorem m_callSix {y : MethodName} {ws ws' : List Cond} {fr lo index maxL n : Nat} {As rest : List Value} {P : Int → Mem → Prop} {bytes : ByteArray} {ret : Option FieldType}
    (hC : mCtx C own cc nL Ts rm g) (hM : ∀ l, Does l y ws ({ frames := fr, cells := 0, slots := 0, locals := lo } : Room) g As S (PIx P)) (hG : GoodIn Ts (va_wsS own index y ws)) (hw : ws = Cond.code y bytes maxL ret :: ws') (hd : decode cc pc = .ok (.invokestatic index, 3)) 
    (hy : y.cls = own ∧ y.cls ≠ "java/lang/invoke/MethodHandle" ∧ y.cls ≠ "java/lang/invoke/VarHandle" ∧ (parseMethodDescriptor y.desc).map (fun d => d.parameters.length) = some n) (hR : fr + 1 ≤ rm.frames ∧ 8 + (maxL + 11) + lo ≤ rm.locals) (hn : As.length = n) (hst : (rest.map fun v => v.category).sum ≤ 8) (hk : k.1 ≤ rm.cells ∧ k.2 ≤ rm.slots) (hstk : st = As.reverse ++ rest)
    (kk : ∀ v S1, P v S1 → MW C g nL k (pc + 3) lv (.int (z32 v) :: rest) S1) : MW C g nL k pc lv st S := by
  refine m_callS hC hM hG hw hd hy hR hn hst hk hstk (fun r S' hp => ?_)
  obtain ⟨v, rfl, hp⟩ := hp
  exact kk v S' hp
theorem m_callSvx {y : MethodName} {ws ws' : List Cond} {fr lo index maxL n : Nat} {As rest : List Value} {P : Mem → Prop} {bytes : ByteArray} {ret : Option FieldType}
    (hC : mCtx C own cc nL Ts rm g) (hM : ∀ l, Does l y ws ({ frames := fr, cells := 0, slots := 0, locals := lo } : Room) g As S (PVx P)) (hG : GoodIn Ts (va_wsS own index y ws)) (hw : ws = Cond.code y bytes maxL ret :: ws') (hd : decode cc pc = .ok (.invokestatic index, 3)) 
    (hy : y.cls = own ∧ y.cls ≠ "java/lang/invoke/MethodHandle" ∧ y.cls ≠ "java/lang/invoke/VarHandle" ∧ (parseMethodDescriptor y.desc).map (fun d => d.parameters.length) = some n) (hR : fr + 1 ≤ rm.frames ∧ 8 + (maxL + 11) + lo ≤ rm.locals) (hn : As.length = n) (hst : (rest.map fun v => v.category).sum ≤ 8) (hk : k.1 ≤ rm.cells ∧ k.2 ≤ rm.slots) (hstk : st = As.reverse ++ rest)
    (kk : ∀ S1, P S1 → MW C g nL k (pc + 3) lv rest S1) : MW C g nL k pc lv st S := by
  refine m_callS hC hM hG hw hd hy hR hn hst hk hstk (fun r S' hp => ?_)
  obtain ⟨rfl, hp⟩ := hp
  exact kk S' hp
theorem m_ireti (hC : mCtx C own cc nL Ts rm g) {S0 : Mem} {ret : FieldType} {a : Int} {v : Int} {S1 : Mem} (hR : mRet C g S0 (some ret) (PI v S1) rm) (hret : ret = .int ∨ (ret = .boolean ∧ (a = 0 ∨ a = 1))) (hd : decode cc pc = .ok (.ireturn, 1)) (hk : k.1 ≤ rm.cells ∧ k.2 ≤ rm.slots) (hv : a = v) (hs : S = S1) : MW C g nL k pc lv [.int (z32 a)] S := m_iret hC hR hret hd hk ⟨by rw [hv], hs⟩
theorem m_iretx (hC : mCtx C own cc nL Ts rm g) {S0 : Mem} {ret : FieldType} {a : Int} {P : Int → Mem → Prop} (hR : mRet C g S0 (some ret) (PIx P) rm) (hret : ret = .int ∨ (ret = .boolean ∧ (a = 0 ∨ a = 1))) (hd : decode cc pc = .ok (.ireturn, 1)) (hk : k.1 ≤ rm.cells ∧ k.2 ≤ rm.slots) (hp : P a S) : MW C g nL k pc lv [.int (z32 a)] S := m_iret hC hR hret hd hk ⟨a, rfl, hp⟩
theorem m_vretv (hC : mCtx C own cc nL Ts rm g) {S0 S1 : Mem} (hR : mRet C g S0 none (PV S1) rm) (hd : decode cc pc = .ok (.return_, 1)) (hk : k.1 ≤ rm.cells ∧ k.2 ≤ rm.slots) (hs : S = S1) : MW C g nL k pc lv [] S := m_vret hC hR hd hk ⟨rfl, hs⟩
theorem m_vretx (hC : mCtx C own cc nL Ts rm g) {S0 : Mem} {P : Mem → Prop} (hR : mRet C g S0 none (PVx P) rm) (hd : decode cc pc = .ok (.return_, 1)) (hk : k.1 ≤ rm.cells ∧ k.2 ≤ rm.slots) (hp : P S) : MW C g nL k pc lv [] S := m_vret hC hR hd hk ⟨rfl, hp⟩
end MINS
