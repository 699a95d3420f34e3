/-! ===== debts and trades ===== -/
theorem T1 : isTbl 1 2 8 2 := ⟨16, rfl, rfl, by decide, by decide, by decide, by decide, by decide⟩
theorem T4 : isTbl 4 5 100 6 := ⟨600, rfl, rfl, by decide, by decide, by decide, by decide, by decide⟩
theorem T7 : isTbl 7 8 9 9 := ⟨81, rfl, rfl, by decide, by decide, by decide, by decide, by decide⟩
theorem T9 : isTbl 9 10 9 9 := ⟨81, rfl, rfl, by decide, by decide, by decide, by decide, by decide⟩
theorem T11 : isTbl 11 12 9 9 := ⟨81, rfl, rfl, by decide, by decide, by decide, by decide, by decide⟩
theorem T13 : isTbl 13 14 9 9 := ⟨81, rfl, rfl, by decide, by decide, by decide, by decide, by decide⟩
theorem T16 : isTbl 16 17 57 7 := ⟨399, rfl, rfl, by decide, by decide, by decide, by decide, by decide⟩
/-- what is owed and not frozen -/
def opn (S : Mem) (i j : Int) : Int := tg 9 9 (S 8) i j - tg 9 9 (S 10) i j
def opnOk (S : Mem) : Prop := ∀ i j : Int, -2147483648 ≤ opn S i j ∧ opn S i j < 2147483648
def bal (f : Int → Int) (s : Int) : Int := sI (fun r => tg 9 9 f r s) 9 - sI (fun c => tg 9 9 f s c) 9
def god (S : Mem) (s : Int) : Nat → Int
  | 0 => 0
  | n + 1 => if opn S (god S s n) s < opn S ((n : Int) + 1) s then (n : Int) + 1 else god S s n
theorem god_in (S : Mem) (s : Int) : ∀ n : Nat, 0 ≤ god S s n ∧ god S s n ≤ n
  | 0 => by simp [god]
  | n + 1 => by
    have := god_in S s n
    unfold god
    split <;> omega
def trd (S : Mem) (t w : Int) : Int := tg 100 6 (S 5) t w
def trdOk (S : Mem) : Prop := ∀ t w : Int, -2147483648 ≤ trd S t w ∧ trd S t w < 2147483648
def bI (b : Bool) : Int := if b then 1 else 0
theorem bI_rng (b : Bool) : bI b = 0 ∨ bI b = 1 := by cases b <;> simp [bI]
theorem bI_0 {b : Bool} (h : bI b = 0) : b = false := by cases b <;> simp [bI] at h ⊢
theorem bI_1 {b : Bool} (h : ¬ bI b = 0) : b = true := by cases b <;> simp [bI] at h ⊢
def isof (S : Mem) (s t : Int) : Bool := decide (trd S t 1 = s) || decide (trd S t 2 = s)
def anyI (p : Int → Bool) : Nat → Bool
  | 0 => false
  | n + 1 => anyI p n || p n
theorem anyI_yes {p : Int → Bool} {i : Nat} (h : p i = true) : ∀ {n : Nat}, i < n → anyI p n = true
  | 0, hi => absurd hi (Nat.not_lt_zero i)
  | n + 1, hi => by
    rw [anyI]
    rcases Nat.lt_or_ge i n with q | q
    · rw [anyI_yes h q]; rfl
    · rw [show n = i by omega, h, Bool.or_true]
def amtF (S : Mem) (s d t : Int) : Int := if isof S s t = true ∧ trd S t 0 ≠ 2 ∧ d ≤ trd S t 4 then trd S t 3 else 0
def balF (S : Mem) (s t : Int) : Int := (if trd S t 0 ≠ 2 ∧ trd S t 2 = s then trd S t 3 else 0) - (if trd S t 0 ≠ 2 ∧ trd S t 1 = s then trd S t 3 else 0)
def putT (S : Mem) (n b s a d : Int) : Mem := mset (ts (ts (ts (ts (ts S 5 100 6 n 0 0) 5 100 6 n 1 b) 5 100 6 n 2 s) 5 100 6 n 3 a) 5 100 6 n 4 d) 3 1 (n + 1)
theorem ts_o {S : Mem} {a : Nat} {R Cn r c v : Int} {o : Nat} (h : o ≠ a) : ts S a R Cn r c v o = S o := by
  unfold ts
  split
  · funext i
    simp only [mset, h, false_and, if_false]
  · rfl
theorem iX0_owed_0 : ∀ w ∈ wsX00, w ∈ wsX0_owed := by decide +kernel
theorem fX0_owed_14 : Cond.fieldLink RX0 14 "Mutualledger$Debts" "owed" "LMutualledger$Table;" ∈ wsX0_owed := by decide +kernel
set_option maxHeartbeats 4000000 in
set_option maxRecDepth 100000 in
theorem c_X0_owed {g : mG} {S : Mem} {i j : Int} (hi : -2147483648 ≤ i ∧ i < 2147483648) (hj : -2147483648 ≤ j ∧ j < 2147483648) (l : Launch) : Does l yX0_owed wsX0_owed ({ frames := 2, cells := 0, slots := 0, locals := 46 } : Room) g [.ref (g.2.2 6), .int (z32 i), .int (z32 j)] S (PI (tg 9 9 (S 8) i j) S) := by
  refine Does.of (cc := cX0_owed) (maxL := 3) (ret := (some .int)) (own := RX0) (by decide) rfl rfl (Nat.le_of_ble_eq_true rfl) ?_
  intro C hC hR
  show MW C g 3 (0, 0) 0 [(0, .ref (g.2.2 6)), (1, .int (z32 i)), (2, .int (z32 j))] [] S
  refine m_aload_n hC dX0_owed_0 0 rfl ?_
  refine m_getR (o := 6) (j := 0) (a := 7) (CN := RX0) (T := TX0) (N := 2) hC iX0_owed_0 fX0_owed_14 rfl dX0_owed_1 rfl rfl (by decide) rfl ?_
  refine m_iload_n hC dX0_owed_4 1 rfl ?_
  refine m_iload_n hC dX0_owed_5 2 rfl ?_
  refine m_callVi (n := 2) hC (c_X2_get T7 hi hj) gX0_owed_X2_get rfl dX0_owed_6 rfl rfl (by decide +kernel) ⟨Nat.le_of_ble_eq_true rfl, Nat.le_of_ble_eq_true rfl⟩ rfl (Nat.le_of_ble_eq_true rfl) ⟨Nat.le_of_ble_eq_true rfl, Nat.le_of_ble_eq_true rfl⟩ rfl ?_
  refine m_ireti hC hR (Or.inl rfl) dX0_owed_9 ⟨Nat.le_of_ble_eq_true rfl, Nat.le_of_ble_eq_true rfl⟩ ?_ ?_
  · first | rfl | omega
  · rfl
theorem iX0_frozenPart_0 : ∀ w ∈ wsX00, w ∈ wsX0_frozenPart := by decide +kernel
theorem fX0_frozenPart_20 : Cond.fieldLink RX0 20 "Mutualledger$Debts" "frozenParts" "LMutualledger$Table;" ∈ wsX0_frozenPart := by decide +kernel
set_option maxHeartbeats 4000000 in
set_option maxRecDepth 100000 in
theorem c_X0_frozenPart {g : mG} {S : Mem} {i j : Int} (hi : -2147483648 ≤ i ∧ i < 2147483648) (hj : -2147483648 ≤ j ∧ j < 2147483648) (l : Launch) : Does l yX0_frozenPart wsX0_frozenPart ({ frames := 2, cells := 0, slots := 0, locals := 46 } : Room) g [.ref (g.2.2 6), .int (z32 i), .int (z32 j)] S (PI (tg 9 9 (S 10) i j) S) := by
  refine Does.of (cc := cX0_frozenPart) (maxL := 3) (ret := (some .int)) (own := RX0) (by decide) rfl rfl (Nat.le_of_ble_eq_true rfl) ?_
  intro C hC hR
  show MW C g 3 (0, 0) 0 [(0, .ref (g.2.2 6)), (1, .int (z32 i)), (2, .int (z32 j))] [] S
  refine m_aload_n hC dX0_frozenPart_0 0 rfl ?_
  refine m_getR (o := 6) (j := 1) (a := 9) (CN := RX0) (T := TX0) (N := 2) hC iX0_frozenPart_0 fX0_frozenPart_20 rfl dX0_frozenPart_1 rfl rfl (by decide) rfl ?_
  refine m_iload_n hC dX0_frozenPart_4 1 rfl ?_
  refine m_iload_n hC dX0_frozenPart_5 2 rfl ?_
  refine m_callVi (n := 2) hC (c_X2_get T9 hi hj) gX0_frozenPart_X2_get rfl dX0_frozenPart_6 rfl rfl (by decide +kernel) ⟨Nat.le_of_ble_eq_true rfl, Nat.le_of_ble_eq_true rfl⟩ rfl (Nat.le_of_ble_eq_true rfl) ⟨Nat.le_of_ble_eq_true rfl, Nat.le_of_ble_eq_true rfl⟩ rfl ?_
  refine m_ireti hC hR (Or.inl rfl) dX0_frozenPart_9 ⟨Nat.le_of_ble_eq_true rfl, Nat.le_of_ble_eq_true rfl⟩ ?_ ?_
  · first | rfl | omega
  · rfl
theorem iX0_open_0 : ∀ w ∈ wsX00, w ∈ wsX0_open := by decide +kernel
theorem fX0_open_14 : Cond.fieldLink RX0 14 "Mutualledger$Debts" "owed" "LMutualledger$Table;" ∈ wsX0_open := by decide +kernel
theorem fX0_open_20 : Cond.fieldLink RX0 20 "Mutualledger$Debts" "frozenParts" "LMutualledger$Table;" ∈ wsX0_open := by decide +kernel
set_option maxHeartbeats 4000000 in
set_option maxRecDepth 100000 in
theorem c_X0_open {g : mG} {S : Mem} {i j : Int} (hi : -2147483648 ≤ i ∧ i < 2147483648) (hj : -2147483648 ≤ j ∧ j < 2147483648) (l : Launch) : Does l yX0_open wsX0_open ({ frames := 2, cells := 0, slots := 0, locals := 46 } : Room) g [.ref (g.2.2 6), .int (z32 i), .int (z32 j)] S (PI (opn S i j) S) := by
  refine Does.of (cc := cX0_open) (maxL := 3) (ret := (some .int)) (own := RX0) (by decide) rfl rfl (Nat.le_of_ble_eq_true rfl) ?_
  intro C hC hR
  show MW C g 3 (0, 0) 0 [(0, .ref (g.2.2 6)), (1, .int (z32 i)), (2, .int (z32 j))] [] S
  refine m_aload_n hC dX0_open_0 0 rfl ?_
  refine m_getR (o := 6) (j := 0) (a := 7) (CN := RX0) (T := TX0) (N := 2) hC iX0_open_0 fX0_open_14 rfl dX0_open_1 rfl rfl (by decide) rfl ?_
  refine m_iload_n hC dX0_open_4 1 rfl ?_
  refine m_iload_n hC dX0_open_5 2 rfl ?_
  refine m_callVi (n := 2) hC (c_X2_get T7 hi hj) gX0_open_X2_get rfl dX0_open_6 rfl rfl (by decide +kernel) ⟨Nat.le_of_ble_eq_true rfl, Nat.le_of_ble_eq_true rfl⟩ rfl (Nat.le_of_ble_eq_true rfl) ⟨Nat.le_of_ble_eq_true rfl, Nat.le_of_ble_eq_true rfl⟩ rfl ?_
  refine m_aload_n hC dX0_open_9 0 rfl ?_
  refine m_getR (o := 6) (j := 1) (a := 9) (CN := RX0) (T := TX0) (N := 2) hC iX0_open_0 fX0_open_20 rfl dX0_open_10 rfl rfl (by decide) rfl ?_
  refine m_iload_n hC dX0_open_13 1 rfl ?_
  refine m_iload_n hC dX0_open_14 2 rfl ?_
  refine m_callVi (n := 2) hC (c_X2_get T9 hi hj) gX0_open_X2_get rfl dX0_open_15 rfl rfl (by decide +kernel) ⟨Nat.le_of_ble_eq_true rfl, Nat.le_of_ble_eq_true rfl⟩ rfl (Nat.le_of_ble_eq_true rfl) ⟨Nat.le_of_ble_eq_true rfl, Nat.le_of_ble_eq_true rfl⟩ rfl ?_
  refine m_isub hC dX0_open_18 ?_
  refine m_ireti hC hR (Or.inl rfl) dX0_open_19 ⟨Nat.le_of_ble_eq_true rfl, Nat.le_of_ble_eq_true rfl⟩ ?_ ?_
  · first | rfl | omega
  · rfl
theorem iX0_openTo_0 : ∀ w ∈ wsX00, w ∈ wsX0_openTo := by decide +kernel
theorem fX0_openTo_14 : Cond.fieldLink RX0 14 "Mutualledger$Debts" "owed" "LMutualledger$Table;" ∈ wsX0_openTo := by decide +kernel
theorem fX0_openTo_20 : Cond.fieldLink RX0 20 "Mutualledger$Debts" "frozenParts" "LMutualledger$Table;" ∈ wsX0_openTo := by decide +kernel
set_option maxHeartbeats 4000000 in
set_option maxRecDepth 100000 in
theorem c_X0_openTo {g : mG} {S : Mem} {j : Int} (hj : -2147483648 ≤ j ∧ j < 2147483648) (l : Launch) : Does l yX0_openTo wsX0_openTo ({ frames := 3, cells := 0, slots := 0, locals := 69 } : Room) g [.ref (g.2.2 6), .int (z32 j)] S (PI (sI (fun r => tg 9 9 (S 8) r j) 9 - sI (fun r => tg 9 9 (S 10) r j) 9) S) := by
  refine Does.of (cc := cX0_openTo) (maxL := 2) (ret := (some .int)) (own := RX0) (by decide) rfl rfl (Nat.le_of_ble_eq_true rfl) ?_
  intro C hC hR
  show MW C g 2 (0, 0) 0 [(0, .ref (g.2.2 6)), (1, .int (z32 j))] [] S
  refine m_aload_n hC dX0_openTo_0 0 rfl ?_
  refine m_getR (o := 6) (j := 0) (a := 7) (CN := RX0) (T := TX0) (N := 2) hC iX0_openTo_0 fX0_openTo_14 rfl dX0_openTo_1 rfl rfl (by decide) rfl ?_
  refine m_iload_n hC dX0_openTo_4 1 rfl ?_
  refine m_callVi (n := 1) hC (c_X2_columnSum T7 hj) gX0_openTo_X2_columnSum rfl dX0_openTo_5 rfl rfl (by decide +kernel) ⟨Nat.le_of_ble_eq_true rfl, Nat.le_of_ble_eq_true rfl⟩ rfl (Nat.le_of_ble_eq_true rfl) ⟨Nat.le_of_ble_eq_true rfl, Nat.le_of_ble_eq_true rfl⟩ rfl ?_
  refine m_aload_n hC dX0_openTo_8 0 rfl ?_
  refine m_getR (o := 6) (j := 1) (a := 9) (CN := RX0) (T := TX0) (N := 2) hC iX0_openTo_0 fX0_openTo_20 rfl dX0_openTo_9 rfl rfl (by decide) rfl ?_
  refine m_iload_n hC dX0_openTo_12 1 rfl ?_
  refine m_callVi (n := 1) hC (c_X2_columnSum T9 hj) gX0_openTo_X2_columnSum rfl dX0_openTo_13 rfl rfl (by decide +kernel) ⟨Nat.le_of_ble_eq_true rfl, Nat.le_of_ble_eq_true rfl⟩ rfl (Nat.le_of_ble_eq_true rfl) ⟨Nat.le_of_ble_eq_true rfl, Nat.le_of_ble_eq_true rfl⟩ rfl ?_
  refine m_isub hC dX0_openTo_16 ?_
  refine m_ireti hC hR (Or.inl rfl) dX0_openTo_17 ⟨Nat.le_of_ble_eq_true rfl, Nat.le_of_ble_eq_true rfl⟩ ?_ ?_
  · first | rfl | omega
  · rfl
theorem iX0_more_0 : ∀ w ∈ wsX00, w ∈ wsX0_more := by decide +kernel
theorem fX0_more_14 : Cond.fieldLink RX0 14 "Mutualledger$Debts" "owed" "LMutualledger$Table;" ∈ wsX0_more := by decide +kernel
set_option maxHeartbeats 4000000 in
set_option maxRecDepth 100000 in
theorem c_X0_more {g : mG} {S : Mem} {i j v : Int} (hi : -2147483648 ≤ i ∧ i < 2147483648) (hj : -2147483648 ≤ j ∧ j < 2147483648) (l : Launch) : Does l yX0_more wsX0_more ({ frames := 3, cells := 0, slots := 0, locals := 70 } : Room) g [.ref (g.2.2 6), .int (z32 i), .int (z32 j), .int (z32 v)] S (PV (ts S 8 9 9 i j (tg 9 9 (S 8) i j + v))) := by
  refine Does.of (cc := cX0_more) (maxL := 4) (ret := none) (own := RX0) (by decide) rfl rfl (Nat.le_of_ble_eq_true rfl) ?_
  intro C hC hR
  show MW C g 4 (0, 0) 0 [(0, .ref (g.2.2 6)), (1, .int (z32 i)), (2, .int (z32 j)), (3, .int (z32 v))] [] S
  refine m_aload_n hC dX0_more_0 0 rfl ?_
  refine m_getR (o := 6) (j := 0) (a := 7) (CN := RX0) (T := TX0) (N := 2) hC iX0_more_0 fX0_more_14 rfl dX0_more_1 rfl rfl (by decide) rfl ?_
  refine m_iload_n hC dX0_more_4 1 rfl ?_
  refine m_iload_n hC dX0_more_5 2 rfl ?_
  refine m_iload_n hC dX0_more_6 3 rfl ?_
  refine m_callVv (n := 3) hC (c_X2_add T7 hi hj) gX0_more_X2_add rfl dX0_more_7 rfl rfl (by decide +kernel) ⟨Nat.le_of_ble_eq_true rfl, Nat.le_of_ble_eq_true rfl⟩ rfl (Nat.le_of_ble_eq_true rfl) ⟨Nat.le_of_ble_eq_true rfl, Nat.le_of_ble_eq_true rfl⟩ rfl ?_
  refine m_vretv hC hR dX0_more_10 ⟨Nat.le_of_ble_eq_true rfl, Nat.le_of_ble_eq_true rfl⟩ ?_
  rfl
theorem iX0_freeze_0 : ∀ w ∈ wsX00, w ∈ wsX0_freeze := by decide +kernel
theorem fX0_freeze_20 : Cond.fieldLink RX0 20 "Mutualledger$Debts" "frozenParts" "LMutualledger$Table;" ∈ wsX0_freeze := by decide +kernel
set_option maxHeartbeats 4000000 in
set_option maxRecDepth 100000 in
theorem c_X0_freeze {g : mG} {S : Mem} {i j v : Int} (hi : -2147483648 ≤ i ∧ i < 2147483648) (hj : -2147483648 ≤ j ∧ j < 2147483648) (l : Launch) : Does l yX0_freeze wsX0_freeze ({ frames := 3, cells := 0, slots := 0, locals := 70 } : Room) g [.ref (g.2.2 6), .int (z32 i), .int (z32 j), .int (z32 v)] S (PV (ts S 10 9 9 i j (tg 9 9 (S 10) i j + v))) := by
  refine Does.of (cc := cX0_freeze) (maxL := 4) (ret := none) (own := RX0) (by decide) rfl rfl (Nat.le_of_ble_eq_true rfl) ?_
  intro C hC hR
  show MW C g 4 (0, 0) 0 [(0, .ref (g.2.2 6)), (1, .int (z32 i)), (2, .int (z32 j)), (3, .int (z32 v))] [] S
  refine m_aload_n hC dX0_freeze_0 0 rfl ?_
  refine m_getR (o := 6) (j := 1) (a := 9) (CN := RX0) (T := TX0) (N := 2) hC iX0_freeze_0 fX0_freeze_20 rfl dX0_freeze_1 rfl rfl (by decide) rfl ?_
  refine m_iload_n hC dX0_freeze_4 1 rfl ?_
  refine m_iload_n hC dX0_freeze_5 2 rfl ?_
  refine m_iload_n hC dX0_freeze_6 3 rfl ?_
  refine m_callVv (n := 3) hC (c_X2_add T9 hi hj) gX0_freeze_X2_add rfl dX0_freeze_7 rfl rfl (by decide +kernel) ⟨Nat.le_of_ble_eq_true rfl, Nat.le_of_ble_eq_true rfl⟩ rfl (Nat.le_of_ble_eq_true rfl) ⟨Nat.le_of_ble_eq_true rfl, Nat.le_of_ble_eq_true rfl⟩ rfl ?_
  refine m_vretv hC hR dX0_freeze_10 ⟨Nat.le_of_ble_eq_true rfl, Nat.le_of_ble_eq_true rfl⟩ ?_
  rfl
theorem iX0_balanceOf_0 : ∀ w ∈ wsX00, w ∈ wsX0_balanceOf := by decide +kernel
theorem fX0_balanceOf_14 : Cond.fieldLink RX0 14 "Mutualledger$Debts" "owed" "LMutualledger$Table;" ∈ wsX0_balanceOf := by decide +kernel
set_option maxHeartbeats 4000000 in
set_option maxRecDepth 100000 in
theorem c_X0_balanceOf {g : mG} {S : Mem} {j : Int} (hj : -2147483648 ≤ j ∧ j < 2147483648) (l : Launch) : Does l yX0_balanceOf wsX0_balanceOf ({ frames := 3, cells := 0, slots := 0, locals := 69 } : Room) g [.ref (g.2.2 6), .int (z32 j)] S (PI (bal (S 8) j) S) := by
  refine Does.of (cc := cX0_balanceOf) (maxL := 2) (ret := (some .int)) (own := RX0) (by decide) rfl rfl (Nat.le_of_ble_eq_true rfl) ?_
  intro C hC hR
  show MW C g 2 (0, 0) 0 [(0, .ref (g.2.2 6)), (1, .int (z32 j))] [] S
  refine m_aload_n hC dX0_balanceOf_0 0 rfl ?_
  refine m_getR (o := 6) (j := 0) (a := 7) (CN := RX0) (T := TX0) (N := 2) hC iX0_balanceOf_0 fX0_balanceOf_14 rfl dX0_balanceOf_1 rfl rfl (by decide) rfl ?_
  refine m_iload_n hC dX0_balanceOf_4 1 rfl ?_
  refine m_callVi (n := 1) hC (c_X2_columnSum T7 hj) gX0_balanceOf_X2_columnSum rfl dX0_balanceOf_5 rfl rfl (by decide +kernel) ⟨Nat.le_of_ble_eq_true rfl, Nat.le_of_ble_eq_true rfl⟩ rfl (Nat.le_of_ble_eq_true rfl) ⟨Nat.le_of_ble_eq_true rfl, Nat.le_of_ble_eq_true rfl⟩ rfl ?_
  refine m_aload_n hC dX0_balanceOf_8 0 rfl ?_
  refine m_getR (o := 6) (j := 0) (a := 7) (CN := RX0) (T := TX0) (N := 2) hC iX0_balanceOf_0 fX0_balanceOf_14 rfl dX0_balanceOf_9 rfl rfl (by decide) rfl ?_
  refine m_iload_n hC dX0_balanceOf_12 1 rfl ?_
  refine m_callVi (n := 1) hC (c_X2_rowSum T7 hj) gX0_balanceOf_X2_rowSum rfl dX0_balanceOf_13 rfl rfl (by decide +kernel) ⟨Nat.le_of_ble_eq_true rfl, Nat.le_of_ble_eq_true rfl⟩ rfl (Nat.le_of_ble_eq_true rfl) ⟨Nat.le_of_ble_eq_true rfl, Nat.le_of_ble_eq_true rfl⟩ rfl ?_
  refine m_isub hC dX0_balanceOf_16 ?_
  refine m_ireti hC hR (Or.inl rfl) dX0_balanceOf_17 ⟨Nat.le_of_ble_eq_true rfl, Nat.le_of_ble_eq_true rfl⟩ ?_ ?_
  · first | rfl | omega
  · rfl
set_option maxHeartbeats 4000000 in
set_option maxRecDepth 100000 in
theorem c_X0_greatestOpenDebtorOf {g : mG} {S : Mem} {s : Int} (hs : -2147483648 ≤ s ∧ s < 2147483648) (hO : opnOk S) (l : Launch) : Does l yX0_greatestOpenDebtorOf wsX0_greatestOpenDebtorOf ({ frames := 3, cells := 0, slots := 0, locals := 68 } : Room) g [.ref (g.2.2 6), .int (z32 s)] S (PI (god S s 7) S) := by
  refine Does.of (cc := cX0_greatestOpenDebtorOf) (maxL := 4) (ret := (some .int)) (own := RX0) (by decide) rfl rfl (Nat.le_of_ble_eq_true rfl) ?_
  intro C hC hR
  show MW C g 4 (0, 0) 0 [(0, .ref (g.2.2 6)), (1, .int (z32 s))] [] S
  refine m_iconst (v := 0) hC dX0_greatestOpenDebtorOf_0 (by decide) ?_
  refine m_istore_n hC dX0_greatestOpenDebtorOf_1 (fun z9 => [(2, .int (z32 z9)), (0, .ref (g.2.2 6)), (1, .int (z32 s))]) (by decide) (fun _ => rfl) (fun v2_1 hv2_1 => ?_)
  refine m_iconst (v := 1) hC dX0_greatestOpenDebtorOf_2 (by decide) ?_
  refine m_istore_n hC dX0_greatestOpenDebtorOf_3 (fun z9 => [(3, .int (z32 z9)), (2, .int (z32 v2_1)), (0, .ref (g.2.2 6)), (1, .int (z32 s))]) (by decide) (fun _ => rfl) (fun v3_3 hv3_3 => ?_)
  have L4 : ∀ (n4 : Nat) (i : Nat) (b : Int) (x : Int), 8 - x < (n4 : Int) → x = (i : Int) + 1 → i ≤ 7 → b = god S s i → MW C g 4 (0, 0) 4 [(0, .ref (g.2.2 6)), (1, .int (z32 s)), (2, .int (z32 b)), (3, .int (z32 x))] [] S := by
    intro n4
    induction n4 with
    | zero => intros; exfalso; omega
    | succ n4 ih4 =>
      intro i b x hm4 hx hi hb
      have hg := god_in S s i
      refine m_iload_n hC dX0_greatestOpenDebtorOf_4 3 rfl ?_
      refine m_bipush (v := 8) hC dX0_greatestOpenDebtorOf_5 (by decide) ?_
      refine m_icmp_ge (tgt := 33) hC dX0_greatestOpenDebtorOf_7 (by decide) (by omega) (by omega) (fun c_7 => ?_) (fun c_7 => ?_)
      · refine m_iload_n hC dX0_greatestOpenDebtorOf_33 2 rfl ?_
        refine m_ireti hC hR (Or.inl rfl) dX0_greatestOpenDebtorOf_34 ⟨Nat.le_of_ble_eq_true rfl, Nat.le_of_ble_eq_true rfl⟩ ?_ ?_
        · rw [hb, show i = 7 by omega]
        · rfl
      · refine m_aload_n hC dX0_greatestOpenDebtorOf_10 0 rfl ?_
        refine m_iload_n hC dX0_greatestOpenDebtorOf_11 3 rfl ?_
        refine m_iload_n hC dX0_greatestOpenDebtorOf_12 1 rfl ?_
        refine m_callVi (n := 2) hC (c_X0_open (by omega) hs) gX0_greatestOpenDebtorOf_X0_open rfl dX0_greatestOpenDebtorOf_13 rfl rfl (by decide +kernel) ⟨Nat.le_of_ble_eq_true rfl, Nat.le_of_ble_eq_true rfl⟩ rfl (Nat.le_of_ble_eq_true rfl) ⟨Nat.le_of_ble_eq_true rfl, Nat.le_of_ble_eq_true rfl⟩ rfl ?_
        refine m_aload_n hC dX0_greatestOpenDebtorOf_16 0 rfl ?_
        refine m_iload_n hC dX0_greatestOpenDebtorOf_17 2 rfl ?_
        refine m_iload_n hC dX0_greatestOpenDebtorOf_18 1 rfl ?_
        refine m_callVi (n := 2) hC (c_X0_open (by omega) hs) gX0_greatestOpenDebtorOf_X0_open rfl dX0_greatestOpenDebtorOf_19 rfl rfl (by decide +kernel) ⟨Nat.le_of_ble_eq_true rfl, Nat.le_of_ble_eq_true rfl⟩ rfl (Nat.le_of_ble_eq_true rfl) ⟨Nat.le_of_ble_eq_true rfl, Nat.le_of_ble_eq_true rfl⟩ rfl ?_
        refine m_icmp_le (tgt := 27) hC dX0_greatestOpenDebtorOf_22 (by decide) (hO _ _) (hO _ _) (fun c_22 => ?_) (fun c_22 => ?_)
        · refine m_iinc hC dX0_greatestOpenDebtorOf_27 3 rfl (fun z9 => [(3, .int (z32 z9)), (0, .ref (g.2.2 6)), (1, .int (z32 s)), (2, .int (z32 b))]) (by decide) (fun _ => rfl) (fun v3_27 hv3_27 => ?_)
          refine m_goto (tgt := 4) hC dX0_greatestOpenDebtorOf_30 (by decide) ?_
          refine m_locals [1, 2, 3, 0] rfl ?_
          exact ih4 (i + 1) b v3_27 (by omega) (by omega) (by omega) (by first | (rw [god, ← hb, ← hx, if_neg (by omega)]; done) | (rw [god, ← hb, ← hx, if_pos (by omega)]; omega))
        · refine m_iload_n hC dX0_greatestOpenDebtorOf_25 3 rfl ?_
          refine m_istore_n hC dX0_greatestOpenDebtorOf_26 (fun z9 => [(2, .int (z32 z9)), (0, .ref (g.2.2 6)), (1, .int (z32 s)), (3, .int (z32 x))]) (by decide) (fun _ => rfl) (fun v2_26 hv2_26 => ?_)
          refine m_iinc hC dX0_greatestOpenDebtorOf_27 3 rfl (fun z9 => [(3, .int (z32 z9)), (2, .int (z32 v2_26)), (0, .ref (g.2.2 6)), (1, .int (z32 s))]) (by decide) (fun _ => rfl) (fun v3_27 hv3_27 => ?_)
          refine m_goto (tgt := 4) hC dX0_greatestOpenDebtorOf_30 (by decide) ?_
          refine m_locals [2, 3, 1, 0] rfl ?_
          exact ih4 (i + 1) v2_26 v3_27 (by omega) (by omega) (by omega) (by first | (rw [god, ← hb, ← hx, if_neg (by omega)]; done) | (rw [god, ← hb, ← hx, if_pos (by omega)]; omega))
  refine m_locals [2, 3, 1, 0] rfl ?_
  exact L4 9 0 v2_1 v3_3 (by omega) (by omega) (by omega) (by rw [hv2_1]; rfl)
theorem iX3_isFull_3 : ∀ w ∈ wsX30, w ∈ wsX3_isFull := by decide +kernel
theorem fX3_isFull_20 : Cond.fieldLink RX3 20 "Mutualledger$Trades" "count" "I" ∈ wsX3_isFull := by decide +kernel
set_option maxHeartbeats 4000000 in
set_option maxRecDepth 100000 in
theorem c_X3_isFull {g : mG} {S : Mem} (hn : -2147483648 ≤ S 3 1 ∧ S 3 1 < 2147483648) (l : Launch) : Does l yX3_isFull wsX3_isFull ({ frames := 0, cells := 0, slots := 0, locals := 0 } : Room) g [.ref (g.2.2 3)] S (PI (bI (decide (100 ≤ S 3 1))) S) := by
  refine Does.of (cc := cX3_isFull) (maxL := 1) (ret := (some .boolean)) (own := RX3) (by decide) rfl rfl (Nat.le_of_ble_eq_true rfl) ?_
  intro C hC hR
  show MW C g 1 (0, 0) 0 [(0, .ref (g.2.2 3))] [] S
  refine m_aload_n hC dX3_isFull_0 0 rfl ?_
  refine m_getI (o := 3) (j := 1) (ji := 1) (CN := RX3) (T := TX3) (N := 2) hC iX3_isFull_3 fX3_isFull_20 rfl dX3_isFull_1 rfl rfl (by decide) rfl rfl ?_
  refine m_bipush (v := 100) hC dX3_isFull_4 (by decide) ?_
  refine m_icmp_lt (tgt := 13) hC dX3_isFull_6 (by decide) (by omega) (by omega) (fun c_6 => ?_) (fun c_6 => ?_)
  · refine m_iconst (v := 0) hC dX3_isFull_13 (by decide) ?_
    refine m_ireti hC hR (Or.inr ⟨rfl, by first | exact Or.inl rfl | exact Or.inr rfl | omega⟩) dX3_isFull_14 ⟨Nat.le_of_ble_eq_true rfl, Nat.le_of_ble_eq_true rfl⟩ ?_ ?_
    · first | (rw [bI, if_neg (by simp only [decide_eq_true_eq]; omega)]; done) | rw [bI, if_pos (by simp only [decide_eq_true_eq]; omega)]
    · rfl
  · refine m_iconst (v := 1) hC dX3_isFull_9 (by decide) ?_
    refine m_goto (tgt := 14) hC dX3_isFull_10 (by decide) ?_
    refine m_ireti hC hR (Or.inr ⟨rfl, by first | exact Or.inl rfl | exact Or.inr rfl | omega⟩) dX3_isFull_14 ⟨Nat.le_of_ble_eq_true rfl, Nat.le_of_ble_eq_true rfl⟩ ?_ ?_
    · first | (rw [bI, if_neg (by simp only [decide_eq_true_eq]; omega)]; done) | rw [bI, if_pos (by simp only [decide_eq_true_eq]; omega)]
    · rfl
theorem iX3_has_3 : ∀ w ∈ wsX30, w ∈ wsX3_has := by decide +kernel
theorem fX3_has_20 : Cond.fieldLink RX3 20 "Mutualledger$Trades" "count" "I" ∈ wsX3_has := by decide +kernel
set_option maxHeartbeats 4000000 in
set_option maxRecDepth 100000 in
theorem c_X3_has {g : mG} {S : Mem} {t : Int} (ht : -2147483648 ≤ t ∧ t < 2147483648) (hn : -2147483648 ≤ S 3 1 ∧ S 3 1 < 2147483648) (l : Launch) : Does l yX3_has wsX3_has ({ frames := 0, cells := 0, slots := 0, locals := 0 } : Room) g [.ref (g.2.2 3), .int (z32 t)] S (PI (bI (decide (0 ≤ t ∧ t < S 3 1))) S) := by
  refine Does.of (cc := cX3_has) (maxL := 2) (ret := (some .boolean)) (own := RX3) (by decide) rfl rfl (Nat.le_of_ble_eq_true rfl) ?_
  intro C hC hR
  show MW C g 2 (0, 0) 0 [(0, .ref (g.2.2 3)), (1, .int (z32 t))] [] S
  refine m_iload_n hC dX3_has_0 1 rfl ?_
  refine m_if_lt (tgt := 16) hC dX3_has_1 (by decide) (by omega) (fun c_1 => ?_) (fun c_1 => ?_)
  · refine m_iconst (v := 0) hC dX3_has_16 (by decide) ?_
    refine m_ireti hC hR (Or.inr ⟨rfl, by first | exact Or.inl rfl | exact Or.inr rfl | omega⟩) dX3_has_17 ⟨Nat.le_of_ble_eq_true rfl, Nat.le_of_ble_eq_true rfl⟩ ?_ ?_
    · first | (rw [bI, if_neg (by simp only [decide_eq_true_eq]; omega)]; done) | rw [bI, if_pos (by simp only [decide_eq_true_eq]; omega)]
    · rfl
  · refine m_iload_n hC dX3_has_4 1 rfl ?_
    refine m_aload_n hC dX3_has_5 0 rfl ?_
    refine m_getI (o := 3) (j := 1) (ji := 1) (CN := RX3) (T := TX3) (N := 2) hC iX3_has_3 fX3_has_20 rfl dX3_has_6 rfl rfl (by decide) rfl rfl ?_
    refine m_icmp_ge (tgt := 16) hC dX3_has_9 (by decide) (by omega) (by omega) (fun c_9 => ?_) (fun c_9 => ?_)
    · refine m_iconst (v := 0) hC dX3_has_16 (by decide) ?_
      refine m_ireti hC hR (Or.inr ⟨rfl, by first | exact Or.inl rfl | exact Or.inr rfl | omega⟩) dX3_has_17 ⟨Nat.le_of_ble_eq_true rfl, Nat.le_of_ble_eq_true rfl⟩ ?_ ?_
      · first | (rw [bI, if_neg (by simp only [decide_eq_true_eq]; omega)]; done) | rw [bI, if_pos (by simp only [decide_eq_true_eq]; omega)]
      · rfl
    · refine m_iconst (v := 1) hC dX3_has_12 (by decide) ?_
      refine m_goto (tgt := 17) hC dX3_has_13 (by decide) ?_
      refine m_ireti hC hR (Or.inr ⟨rfl, by first | exact Or.inl rfl | exact Or.inr rfl | omega⟩) dX3_has_17 ⟨Nat.le_of_ble_eq_true rfl, Nat.le_of_ble_eq_true rfl⟩ ?_ ?_
      · first | (rw [bI, if_neg (by simp only [decide_eq_true_eq]; omega)]; done) | rw [bI, if_pos (by simp only [decide_eq_true_eq]; omega)]
      · rfl
theorem iX3_of_3 : ∀ w ∈ wsX30, w ∈ wsX3_of := by decide +kernel
theorem fX3_of_16 : Cond.fieldLink RX3 16 "Mutualledger$Trades" "rows" "LMutualledger$Table;" ∈ wsX3_of := by decide +kernel
set_option maxHeartbeats 4000000 in
set_option maxRecDepth 100000 in
theorem c_X3_of {g : mG} {S : Mem} {t w : Int} (ht : -2147483648 ≤ t ∧ t < 2147483648) (hw : -2147483648 ≤ w ∧ w < 2147483648) (l : Launch) : Does l yX3_of wsX3_of ({ frames := 2, cells := 0, slots := 0, locals := 46 } : Room) g [.ref (g.2.2 3), .int (z32 t), .int (z32 w)] S (PI (trd S t w) S) := by
  refine Does.of (cc := cX3_of) (maxL := 3) (ret := (some .int)) (own := RX3) (by decide) rfl rfl (Nat.le_of_ble_eq_true rfl) ?_
  intro C hC hR
  show MW C g 3 (0, 0) 0 [(0, .ref (g.2.2 3)), (1, .int (z32 t)), (2, .int (z32 w))] [] S
  refine m_aload_n hC dX3_of_0 0 rfl ?_
  refine m_getR (o := 3) (j := 0) (a := 4) (CN := RX3) (T := TX3) (N := 2) hC iX3_of_3 fX3_of_16 rfl dX3_of_1 rfl rfl (by decide) rfl ?_
  refine m_iload_n hC dX3_of_4 1 rfl ?_
  refine m_iload_n hC dX3_of_5 2 rfl ?_
  refine m_callVi (n := 2) hC (c_X2_get T4 ht hw) gX3_of_X2_get rfl dX3_of_6 rfl rfl (by decide +kernel) ⟨Nat.le_of_ble_eq_true rfl, Nat.le_of_ble_eq_true rfl⟩ rfl (Nat.le_of_ble_eq_true rfl) ⟨Nat.le_of_ble_eq_true rfl, Nat.le_of_ble_eq_true rfl⟩ rfl ?_
  refine m_ireti hC hR (Or.inl rfl) dX3_of_9 ⟨Nat.le_of_ble_eq_true rfl, Nat.le_of_ble_eq_true rfl⟩ ?_ ?_
  · first | rfl | omega
  · rfl
theorem iX3_put_3 : ∀ w ∈ wsX30, w ∈ wsX3_put := by decide +kernel
theorem fX3_put_20 : Cond.fieldLink RX3 20 "Mutualledger$Trades" "count" "I" ∈ wsX3_put := by decide +kernel
theorem fX3_put_16 : Cond.fieldLink RX3 16 "Mutualledger$Trades" "rows" "LMutualledger$Table;" ∈ wsX3_put := by decide +kernel
set_option maxHeartbeats 4000000 in
set_option maxRecDepth 100000 in
theorem c_X3_put {g : mG} {S : Mem} {b s a d : Int} (hn : -2147483648 ≤ S 3 1 ∧ S 3 1 < 2147483648) (l : Launch) : Does l yX3_put wsX3_put ({ frames := 2, cells := 0, slots := 0, locals := 47 } : Room) g [.ref (g.2.2 3), .int (z32 b), .int (z32 s), .int (z32 a), .int (z32 d)] S (PI (S 3 1) (putT S (S 3 1) b s a d)) := by
  refine Does.of (cc := cX3_put) (maxL := 6) (ret := (some .int)) (own := RX3) (by decide) rfl rfl (Nat.le_of_ble_eq_true rfl) ?_
  intro C hC hR
  show MW C g 6 (0, 0) 0 [(0, .ref (g.2.2 3)), (1, .int (z32 b)), (2, .int (z32 s)), (3, .int (z32 a)), (4, .int (z32 d))] [] S
  refine m_aload_n hC dX3_put_0 0 rfl ?_
  refine m_getI (o := 3) (j := 1) (ji := 1) (CN := RX3) (T := TX3) (N := 2) hC iX3_put_3 fX3_put_20 rfl dX3_put_1 rfl rfl (by decide) rfl rfl ?_
  refine m_istore hC dX3_put_4 (fun z9 => [(5, .int (z32 z9)), (0, .ref (g.2.2 3)), (1, .int (z32 b)), (2, .int (z32 s)), (3, .int (z32 a)), (4, .int (z32 d))]) (by decide) (fun _ => rfl) (fun v5_4 hv5_4 => ?_)
  refine m_aload_n hC dX3_put_6 1 rfl ?_
  refine m_getR (o := 3) (j := 0) (a := 4) (CN := RX3) (T := TX3) (N := 2) hC iX3_put_3 fX3_put_16 rfl dX3_put_7 rfl rfl (by decide) rfl ?_
  refine m_iload hC dX3_put_10 0 rfl ?_
  refine m_iconst (v := 0) hC dX3_put_12 (by decide) ?_
  refine m_iconst (v := 0) hC dX3_put_13 (by decide) ?_
  refine m_callVv (n := 3) hC (c_X2_set T4 (by omega) (by omega)) gX3_put_X2_set rfl dX3_put_14 rfl rfl (by decide +kernel) ⟨Nat.le_of_ble_eq_true rfl, Nat.le_of_ble_eq_true rfl⟩ rfl (Nat.le_of_ble_eq_true rfl) ⟨Nat.le_of_ble_eq_true rfl, Nat.le_of_ble_eq_true rfl⟩ rfl ?_
  refine m_aload_n hC dX3_put_17 1 rfl ?_
  refine m_getR (o := 3) (j := 0) (a := 4) (CN := RX3) (T := TX3) (N := 2) hC iX3_put_3 fX3_put_16 rfl dX3_put_18 rfl rfl (by decide) rfl ?_
  refine m_iload hC dX3_put_21 0 rfl ?_
  refine m_iconst (v := 1) hC dX3_put_23 (by decide) ?_
  refine m_iload_n hC dX3_put_24 2 rfl ?_
  refine m_callVv (n := 3) hC (c_X2_set T4 (by omega) (by omega)) gX3_put_X2_set rfl dX3_put_25 rfl rfl (by decide +kernel) ⟨Nat.le_of_ble_eq_true rfl, Nat.le_of_ble_eq_true rfl⟩ rfl (Nat.le_of_ble_eq_true rfl) ⟨Nat.le_of_ble_eq_true rfl, Nat.le_of_ble_eq_true rfl⟩ rfl ?_
  refine m_aload_n hC dX3_put_28 1 rfl ?_
  refine m_getR (o := 3) (j := 0) (a := 4) (CN := RX3) (T := TX3) (N := 2) hC iX3_put_3 fX3_put_16 rfl dX3_put_29 rfl rfl (by decide) rfl ?_
  refine m_iload hC dX3_put_32 0 rfl ?_
  refine m_iconst (v := 2) hC dX3_put_34 (by decide) ?_
  refine m_iload_n hC dX3_put_35 3 rfl ?_
  refine m_callVv (n := 3) hC (c_X2_set T4 (by omega) (by omega)) gX3_put_X2_set rfl dX3_put_36 rfl rfl (by decide +kernel) ⟨Nat.le_of_ble_eq_true rfl, Nat.le_of_ble_eq_true rfl⟩ rfl (Nat.le_of_ble_eq_true rfl) ⟨Nat.le_of_ble_eq_true rfl, Nat.le_of_ble_eq_true rfl⟩ rfl ?_
  refine m_aload_n hC dX3_put_39 1 rfl ?_
  refine m_getR (o := 3) (j := 0) (a := 4) (CN := RX3) (T := TX3) (N := 2) hC iX3_put_3 fX3_put_16 rfl dX3_put_40 rfl rfl (by decide) rfl ?_
  refine m_iload hC dX3_put_43 0 rfl ?_
  refine m_iconst (v := 3) hC dX3_put_45 (by decide) ?_
  refine m_iload_n hC dX3_put_46 4 rfl ?_
  refine m_callVv (n := 3) hC (c_X2_set T4 (by omega) (by omega)) gX3_put_X2_set rfl dX3_put_47 rfl rfl (by decide +kernel) ⟨Nat.le_of_ble_eq_true rfl, Nat.le_of_ble_eq_true rfl⟩ rfl (Nat.le_of_ble_eq_true rfl) ⟨Nat.le_of_ble_eq_true rfl, Nat.le_of_ble_eq_true rfl⟩ rfl ?_
  refine m_aload_n hC dX3_put_50 1 rfl ?_
  refine m_getR (o := 3) (j := 0) (a := 4) (CN := RX3) (T := TX3) (N := 2) hC iX3_put_3 fX3_put_16 rfl dX3_put_51 rfl rfl (by decide) rfl ?_
  refine m_iload hC dX3_put_54 0 rfl ?_
  refine m_iconst (v := 4) hC dX3_put_56 (by decide) ?_
  refine m_iload hC dX3_put_57 5 rfl ?_
  refine m_callVv (n := 3) hC (c_X2_set T4 (by omega) (by omega)) gX3_put_X2_set rfl dX3_put_59 rfl rfl (by decide +kernel) ⟨Nat.le_of_ble_eq_true rfl, Nat.le_of_ble_eq_true rfl⟩ rfl (Nat.le_of_ble_eq_true rfl) ⟨Nat.le_of_ble_eq_true rfl, Nat.le_of_ble_eq_true rfl⟩ rfl ?_
  refine m_aload_n hC dX3_put_62 1 rfl ?_
  refine m_dup hC dX3_put_63 rfl ?_
  refine m_getI (o := 3) (j := 1) (ji := 1) (CN := RX3) (T := TX3) (N := 2) hC iX3_put_3 fX3_put_20 rfl dX3_put_64 rfl rfl (by decide) rfl rfl ?_
  refine m_iconst (v := 1) hC dX3_put_67 (by decide) ?_
  refine m_iadd hC dX3_put_68 ?_
  refine m_putI (o := 3) (j := 1) (ji := 1) (CN := RX3) (T := TX3) (N := 2) hC iX3_put_3 fX3_put_20 rfl dX3_put_69 rfl rfl (by decide) rfl tyX3 tyX3_ok nmX3 rfl (by decide +kernel) rfl ?_
  refine m_iload hC dX3_put_72 0 rfl ?_
  refine m_ireti hC hR (Or.inl rfl) dX3_put_74 ⟨Nat.le_of_ble_eq_true rfl, Nat.le_of_ble_eq_true rfl⟩ ?_ ?_
  · exact hv5_4
  · subst hv5_4; unfold putT; simp only [ts_o (show (3 : Nat) ≠ 5 by decide)]
theorem iX3_turn_3 : ∀ w ∈ wsX30, w ∈ wsX3_turn := by decide +kernel
theorem fX3_turn_16 : Cond.fieldLink RX3 16 "Mutualledger$Trades" "rows" "LMutualledger$Table;" ∈ wsX3_turn := by decide +kernel
set_option maxHeartbeats 4000000 in
set_option maxRecDepth 100000 in
theorem c_X3_turn {g : mG} {S : Mem} {t z f : Int} (ht : -2147483648 ≤ t ∧ t < 2147483648) (l : Launch) : Does l yX3_turn wsX3_turn ({ frames := 2, cells := 0, slots := 0, locals := 47 } : Room) g [.ref (g.2.2 3), .int (z32 t), .int (z32 z), .int (z32 f)] S (PV (ts (ts S 5 100 6 t 0 z) 5 100 6 t 5 f)) := by
  refine Does.of (cc := cX3_turn) (maxL := 4) (ret := none) (own := RX3) (by decide) rfl rfl (Nat.le_of_ble_eq_true rfl) ?_
  intro C hC hR
  show MW C g 4 (0, 0) 0 [(0, .ref (g.2.2 3)), (1, .int (z32 t)), (2, .int (z32 z)), (3, .int (z32 f))] [] S
  refine m_aload_n hC dX3_turn_0 0 rfl ?_
  refine m_getR (o := 3) (j := 0) (a := 4) (CN := RX3) (T := TX3) (N := 2) hC iX3_turn_3 fX3_turn_16 rfl dX3_turn_1 rfl rfl (by decide) rfl ?_
  refine m_iload_n hC dX3_turn_4 1 rfl ?_
  refine m_iconst (v := 0) hC dX3_turn_5 (by decide) ?_
  refine m_iload_n hC dX3_turn_6 2 rfl ?_
  refine m_callVv (n := 3) hC (c_X2_set T4 ht (by omega)) gX3_turn_X2_set rfl dX3_turn_7 rfl rfl (by decide +kernel) ⟨Nat.le_of_ble_eq_true rfl, Nat.le_of_ble_eq_true rfl⟩ rfl (Nat.le_of_ble_eq_true rfl) ⟨Nat.le_of_ble_eq_true rfl, Nat.le_of_ble_eq_true rfl⟩ rfl ?_
  refine m_aload_n hC dX3_turn_10 0 rfl ?_
  refine m_getR (o := 3) (j := 0) (a := 4) (CN := RX3) (T := TX3) (N := 2) hC iX3_turn_3 fX3_turn_16 rfl dX3_turn_11 rfl rfl (by decide) rfl ?_
  refine m_iload_n hC dX3_turn_14 1 rfl ?_
  refine m_iconst (v := 5) hC dX3_turn_15 (by decide) ?_
  refine m_iload_n hC dX3_turn_16 3 rfl ?_
  refine m_callVv (n := 3) hC (c_X2_set T4 ht (by omega)) gX3_turn_X2_set rfl dX3_turn_17 rfl rfl (by decide +kernel) ⟨Nat.le_of_ble_eq_true rfl, Nat.le_of_ble_eq_true rfl⟩ rfl (Nat.le_of_ble_eq_true rfl) ⟨Nat.le_of_ble_eq_true rfl, Nat.le_of_ble_eq_true rfl⟩ rfl ?_
  refine m_vretv hC hR dX3_turn_20 ⟨Nat.le_of_ble_eq_true rfl, Nat.le_of_ble_eq_true rfl⟩ ?_
  rfl
set_option maxHeartbeats 4000000 in
set_option maxRecDepth 100000 in
theorem c_X3_isOf {g : mG} {S : Mem} {t s : Int} (ht : -2147483648 ≤ t ∧ t < 2147483648) (hs : -2147483648 ≤ s ∧ s < 2147483648) (hT : trdOk S) (l : Launch) : Does l yX3_isOf wsX3_isOf ({ frames := 3, cells := 0, slots := 0, locals := 68 } : Room) g [.ref (g.2.2 3), .int (z32 t), .int (z32 s)] S (PI (bI (isof S s t)) S) := by
  refine Does.of (cc := cX3_isOf) (maxL := 3) (ret := (some .boolean)) (own := RX3) (by decide) rfl rfl (Nat.le_of_ble_eq_true rfl) ?_
  intro C hC hR
  show MW C g 3 (0, 0) 0 [(0, .ref (g.2.2 3)), (1, .int (z32 t)), (2, .int (z32 s))] [] S
  refine m_aload_n hC dX3_isOf_0 0 rfl ?_
  refine m_iload_n hC dX3_isOf_1 1 rfl ?_
  refine m_iconst (v := 1) hC dX3_isOf_2 (by decide) ?_
  refine m_callVi (n := 2) hC (c_X3_of ht (by omega)) gX3_isOf_X3_of rfl dX3_isOf_3 rfl rfl (by decide +kernel) ⟨Nat.le_of_ble_eq_true rfl, Nat.le_of_ble_eq_true rfl⟩ rfl (Nat.le_of_ble_eq_true rfl) ⟨Nat.le_of_ble_eq_true rfl, Nat.le_of_ble_eq_true rfl⟩ rfl ?_
  refine m_iload_n hC dX3_isOf_6 2 rfl ?_
  refine m_icmp_eq (tgt := 20) hC dX3_isOf_7 (by decide) (hT _ _) (by omega) (fun c_7 => ?_) (fun c_7 => ?_)
  · refine m_iconst (v := 1) hC dX3_isOf_20 (by decide) ?_
    refine m_goto (tgt := 25) hC dX3_isOf_21 (by decide) ?_
    refine m_ireti hC hR (Or.inr ⟨rfl, by first | exact Or.inl rfl | exact Or.inr rfl | omega⟩) dX3_isOf_25 ⟨Nat.le_of_ble_eq_true rfl, Nat.le_of_ble_eq_true rfl⟩ ?_ ?_
    · simp [bI, isof, *]
    · rfl
  · refine m_aload_n hC dX3_isOf_10 0 rfl ?_
    refine m_iload_n hC dX3_isOf_11 1 rfl ?_
    refine m_iconst (v := 2) hC dX3_isOf_12 (by decide) ?_
    refine m_callVi (n := 2) hC (c_X3_of ht (by omega)) gX3_isOf_X3_of rfl dX3_isOf_13 rfl rfl (by decide +kernel) ⟨Nat.le_of_ble_eq_true rfl, Nat.le_of_ble_eq_true rfl⟩ rfl (Nat.le_of_ble_eq_true rfl) ⟨Nat.le_of_ble_eq_true rfl, Nat.le_of_ble_eq_true rfl⟩ rfl ?_
    refine m_iload_n hC dX3_isOf_16 2 rfl ?_
    refine m_icmp_ne (tgt := 24) hC dX3_isOf_17 (by decide) (hT _ _) (by omega) (fun c_17 => ?_) (fun c_17 => ?_)
    · refine m_iconst (v := 0) hC dX3_isOf_24 (by decide) ?_
      refine m_ireti hC hR (Or.inr ⟨rfl, by first | exact Or.inl rfl | exact Or.inr rfl | omega⟩) dX3_isOf_25 ⟨Nat.le_of_ble_eq_true rfl, Nat.le_of_ble_eq_true rfl⟩ ?_ ?_
      · simp [bI, isof, *]
      · rfl
    · refine m_iconst (v := 1) hC dX3_isOf_20 (by decide) ?_
      refine m_goto (tgt := 25) hC dX3_isOf_21 (by decide) ?_
      refine m_ireti hC hR (Or.inr ⟨rfl, by first | exact Or.inl rfl | exact Or.inr rfl | omega⟩) dX3_isOf_25 ⟨Nat.le_of_ble_eq_true rfl, Nat.le_of_ble_eq_true rfl⟩ ?_ ?_
      · simp [bI, isof, *]
      · rfl
theorem iX3_hasDisputedOf_3 : ∀ w ∈ wsX30, w ∈ wsX3_hasDisputedOf := by decide +kernel
theorem fX3_hasDisputedOf_20 : Cond.fieldLink RX3 20 "Mutualledger$Trades" "count" "I" ∈ wsX3_hasDisputedOf := by decide +kernel
set_option maxHeartbeats 4000000 in
set_option maxRecDepth 100000 in
theorem c_X3_hasDisputedOf {g : mG} {S : Mem} {s : Int} (hs : -2147483648 ≤ s ∧ s < 2147483648) (hT : trdOk S) (hn : 0 ≤ S 3 1 ∧ S 3 1 ≤ 100) (l : Launch) : Does l yX3_hasDisputedOf wsX3_hasDisputedOf ({ frames := 4, cells := 0, slots := 0, locals := 90 } : Room) g [.ref (g.2.2 3), .int (z32 s)] S (PI (bI (anyI (fun t => isof S s t && decide (trd S t 0 = 1)) (S 3 1).toNat)) S) := by
  refine Does.of (cc := cX3_hasDisputedOf) (maxL := 3) (ret := (some .boolean)) (own := RX3) (by decide) rfl rfl (Nat.le_of_ble_eq_true rfl) ?_
  intro C hC hR
  show MW C g 3 (0, 0) 0 [(0, .ref (g.2.2 3)), (1, .int (z32 s))] [] S
  refine m_iconst (v := 0) hC dX3_hasDisputedOf_0 (by decide) ?_
  refine m_istore_n hC dX3_hasDisputedOf_1 (fun z9 => [(2, .int (z32 z9)), (0, .ref (g.2.2 3)), (1, .int (z32 s))]) (by decide) (fun _ => rfl) (fun v2_1 hv2_1 => ?_)
  have L2 : ∀ (n2 : Nat) (i : Nat) (x : Int), S 3 1 - x < (n2 : Int) → x = (i : Int) → (i : Int) ≤ S 3 1 → anyI (fun t => isof S s t && decide (trd S t 0 = 1)) i = false → MW C g 3 (0, 0) 2 [(0, .ref (g.2.2 3)), (1, .int (z32 s)), (2, .int (z32 x))] [] S := by
    intro n2
    induction n2 with
    | zero => intros; exfalso; omega
    | succ n2 ih2 =>
      intro i x hm2 hx hi hno
      have hn1 := hn.1
      have hn2 := hn.2
      refine m_iload_n hC dX3_hasDisputedOf_2 2 rfl ?_
      refine m_aload_n hC dX3_hasDisputedOf_3 0 rfl ?_
      refine m_getI (o := 3) (j := 1) (ji := 1) (CN := RX3) (T := TX3) (N := 2) hC iX3_hasDisputedOf_3 fX3_hasDisputedOf_20 rfl dX3_hasDisputedOf_4 rfl rfl (by decide) rfl rfl ?_
      refine m_icmp_ge (tgt := 37) hC dX3_hasDisputedOf_7 (by decide) (by omega) (by omega) (fun c_7 => ?_) (fun c_7 => ?_)
      · refine m_iconst (v := 0) hC dX3_hasDisputedOf_37 (by decide) ?_
        refine m_ireti hC hR (Or.inr ⟨rfl, Or.inl rfl⟩) dX3_hasDisputedOf_38 ⟨Nat.le_of_ble_eq_true rfl, Nat.le_of_ble_eq_true rfl⟩ ?_ ?_
        · rw [show (S 3 1).toNat = i by omega, hno]; rfl
        · rfl
      · refine m_aload_n hC dX3_hasDisputedOf_10 0 rfl ?_
        refine m_iload_n hC dX3_hasDisputedOf_11 2 rfl ?_
        refine m_iload_n hC dX3_hasDisputedOf_12 1 rfl ?_
        refine m_callVi (n := 2) hC (c_X3_isOf (by omega) hs hT) gX3_hasDisputedOf_X3_isOf rfl dX3_hasDisputedOf_13 rfl rfl (by decide +kernel) ⟨Nat.le_of_ble_eq_true rfl, Nat.le_of_ble_eq_true rfl⟩ rfl (Nat.le_of_ble_eq_true rfl) ⟨Nat.le_of_ble_eq_true rfl, Nat.le_of_ble_eq_true rfl⟩ rfl ?_
        refine m_if_eq (tgt := 31) hC dX3_hasDisputedOf_16 (by decide) (by have := bI_rng (isof S s x); omega) (fun c_16 => ?_) (fun c_16 => ?_)
        · have hb := bI_0 c_16
          refine m_iinc hC dX3_hasDisputedOf_31 2 rfl (fun z9 => [(2, .int (z32 z9)), (0, .ref (g.2.2 3)), (1, .int (z32 s))]) (by decide) (fun _ => rfl) (fun v2_31 hv2_31 => ?_)
          refine m_goto (tgt := 2) hC dX3_hasDisputedOf_34 (by decide) ?_
          refine m_locals [1, 2, 0] rfl ?_
          exact ih2 (i + 1) v2_31 (by omega) (by omega) (by omega) (by rw [anyI, hno, Bool.false_or, ← hx]; first | (simp [hb]; done) | (simp [hb]; omega))
        · have hb := bI_1 c_16
          refine m_aload_n hC dX3_hasDisputedOf_19 0 rfl ?_
          refine m_iload_n hC dX3_hasDisputedOf_20 2 rfl ?_
          refine m_iconst (v := 0) hC dX3_hasDisputedOf_21 (by decide) ?_
          refine m_callVi (n := 2) hC (c_X3_of (by omega) (by omega)) gX3_hasDisputedOf_X3_of rfl dX3_hasDisputedOf_22 rfl rfl (by decide +kernel) ⟨Nat.le_of_ble_eq_true rfl, Nat.le_of_ble_eq_true rfl⟩ rfl (Nat.le_of_ble_eq_true rfl) ⟨Nat.le_of_ble_eq_true rfl, Nat.le_of_ble_eq_true rfl⟩ rfl ?_
          refine m_iconst (v := 1) hC dX3_hasDisputedOf_25 (by decide) ?_
          refine m_icmp_ne (tgt := 31) hC dX3_hasDisputedOf_26 (by decide) (hT _ _) (by omega) (fun c_26 => ?_) (fun c_26 => ?_)
          · refine m_iinc hC dX3_hasDisputedOf_31 2 rfl (fun z9 => [(2, .int (z32 z9)), (0, .ref (g.2.2 3)), (1, .int (z32 s))]) (by decide) (fun _ => rfl) (fun v2_31 hv2_31 => ?_)
            refine m_goto (tgt := 2) hC dX3_hasDisputedOf_34 (by decide) ?_
            refine m_locals [1, 2, 0] rfl ?_
            exact ih2 (i + 1) v2_31 (by omega) (by omega) (by omega) (by rw [anyI, hno, Bool.false_or, ← hx]; first | (simp [hb]; done) | (simp [hb]; omega))
          · refine m_iconst (v := 1) hC dX3_hasDisputedOf_29 (by decide) ?_
            refine m_ireti hC hR (Or.inr ⟨rfl, Or.inr rfl⟩) dX3_hasDisputedOf_30 ⟨Nat.le_of_ble_eq_true rfl, Nat.le_of_ble_eq_true rfl⟩ ?_ ?_
            · rw [anyI_yes (i := i) (by rw [← hx]; simp [hb]; omega) (by omega)]; rfl
            · rfl
  refine m_locals [1, 2, 0] rfl ?_
  exact L2 101 0 v2_1 (by omega) (by omega) (by omega) (rfl)
theorem iX3_hasSince_3 : ∀ w ∈ wsX30, w ∈ wsX3_hasSince := by decide +kernel
theorem fX3_hasSince_20 : Cond.fieldLink RX3 20 "Mutualledger$Trades" "count" "I" ∈ wsX3_hasSince := by decide +kernel
set_option maxHeartbeats 4000000 in
set_option maxRecDepth 100000 in
theorem c_X3_hasSince {g : mG} {S : Mem} {s d : Int} (hs : -2147483648 ≤ s ∧ s < 2147483648) (hd : -2147483648 ≤ d ∧ d < 2147483648) (hT : trdOk S) (hn : 0 ≤ S 3 1 ∧ S 3 1 ≤ 100) (l : Launch) : Does l yX3_hasSince wsX3_hasSince ({ frames := 4, cells := 0, slots := 0, locals := 90 } : Room) g [.ref (g.2.2 3), .int (z32 s), .int (z32 d)] S (PI (bI (anyI (fun t => isof S s t && decide (d ≤ trd S t 4)) (S 3 1).toNat)) S) := by
  refine Does.of (cc := cX3_hasSince) (maxL := 4) (ret := (some .boolean)) (own := RX3) (by decide) rfl rfl (Nat.le_of_ble_eq_true rfl) ?_
  intro C hC hR
  show MW C g 4 (0, 0) 0 [(0, .ref (g.2.2 3)), (1, .int (z32 s)), (2, .int (z32 d))] [] S
  refine m_iconst (v := 0) hC dX3_hasSince_0 (by decide) ?_
  refine m_istore_n hC dX3_hasSince_1 (fun z9 => [(3, .int (z32 z9)), (0, .ref (g.2.2 3)), (1, .int (z32 s)), (2, .int (z32 d))]) (by decide) (fun _ => rfl) (fun v3_1 hv3_1 => ?_)
  have L2 : ∀ (n2 : Nat) (i : Nat) (x : Int), S 3 1 - x < (n2 : Int) → x = (i : Int) → (i : Int) ≤ S 3 1 → anyI (fun t => isof S s t && decide (d ≤ trd S t 4)) i = false → MW C g 4 (0, 0) 2 [(0, .ref (g.2.2 3)), (1, .int (z32 s)), (2, .int (z32 d)), (3, .int (z32 x))] [] S := by
    intro n2
    induction n2 with
    | zero => intros; exfalso; omega
    | succ n2 ih2 =>
      intro i x hm2 hx hi hno
      have hn1 := hn.1
      have hn2 := hn.2
      refine m_iload_n hC dX3_hasSince_2 3 rfl ?_
      refine m_aload_n hC dX3_hasSince_3 0 rfl ?_
      refine m_getI (o := 3) (j := 1) (ji := 1) (CN := RX3) (T := TX3) (N := 2) hC iX3_hasSince_3 fX3_hasSince_20 rfl dX3_hasSince_4 rfl rfl (by decide) rfl rfl ?_
      refine m_icmp_ge (tgt := 37) hC dX3_hasSince_7 (by decide) (by omega) (by omega) (fun c_7 => ?_) (fun c_7 => ?_)
      · refine m_iconst (v := 0) hC dX3_hasSince_37 (by decide) ?_
        refine m_ireti hC hR (Or.inr ⟨rfl, Or.inl rfl⟩) dX3_hasSince_38 ⟨Nat.le_of_ble_eq_true rfl, Nat.le_of_ble_eq_true rfl⟩ ?_ ?_
        · rw [show (S 3 1).toNat = i by omega, hno]; rfl
        · rfl
      · refine m_aload_n hC dX3_hasSince_10 0 rfl ?_
        refine m_iload_n hC dX3_hasSince_11 3 rfl ?_
        refine m_iload_n hC dX3_hasSince_12 1 rfl ?_
        refine m_callVi (n := 2) hC (c_X3_isOf (by omega) hs hT) gX3_hasSince_X3_isOf rfl dX3_hasSince_13 rfl rfl (by decide +kernel) ⟨Nat.le_of_ble_eq_true rfl, Nat.le_of_ble_eq_true rfl⟩ rfl (Nat.le_of_ble_eq_true rfl) ⟨Nat.le_of_ble_eq_true rfl, Nat.le_of_ble_eq_true rfl⟩ rfl ?_
        refine m_if_eq (tgt := 31) hC dX3_hasSince_16 (by decide) (by have := bI_rng (isof S s x); omega) (fun c_16 => ?_) (fun c_16 => ?_)
        · have hb := bI_0 c_16
          refine m_iinc hC dX3_hasSince_31 3 rfl (fun z9 => [(3, .int (z32 z9)), (0, .ref (g.2.2 3)), (1, .int (z32 s)), (2, .int (z32 d))]) (by decide) (fun _ => rfl) (fun v3_31 hv3_31 => ?_)
          refine m_goto (tgt := 2) hC dX3_hasSince_34 (by decide) ?_
          refine m_locals [1, 2, 3, 0] rfl ?_
          exact ih2 (i + 1) v3_31 (by omega) (by omega) (by omega) (by rw [anyI, hno, Bool.false_or, ← hx]; first | (simp [hb]; done) | (simp [hb]; omega))
        · have hb := bI_1 c_16
          refine m_aload_n hC dX3_hasSince_19 0 rfl ?_
          refine m_iload_n hC dX3_hasSince_20 3 rfl ?_
          refine m_iconst (v := 4) hC dX3_hasSince_21 (by decide) ?_
          refine m_callVi (n := 2) hC (c_X3_of (by omega) (by omega)) gX3_hasSince_X3_of rfl dX3_hasSince_22 rfl rfl (by decide +kernel) ⟨Nat.le_of_ble_eq_true rfl, Nat.le_of_ble_eq_true rfl⟩ rfl (Nat.le_of_ble_eq_true rfl) ⟨Nat.le_of_ble_eq_true rfl, Nat.le_of_ble_eq_true rfl⟩ rfl ?_
          refine m_iload_n hC dX3_hasSince_25 2 rfl ?_
          refine m_icmp_lt (tgt := 31) hC dX3_hasSince_26 (by decide) (hT _ _) (by omega) (fun c_26 => ?_) (fun c_26 => ?_)
          · refine m_iinc hC dX3_hasSince_31 3 rfl (fun z9 => [(3, .int (z32 z9)), (0, .ref (g.2.2 3)), (1, .int (z32 s)), (2, .int (z32 d))]) (by decide) (fun _ => rfl) (fun v3_31 hv3_31 => ?_)
            refine m_goto (tgt := 2) hC dX3_hasSince_34 (by decide) ?_
            refine m_locals [1, 2, 3, 0] rfl ?_
            exact ih2 (i + 1) v3_31 (by omega) (by omega) (by omega) (by rw [anyI, hno, Bool.false_or, ← hx]; first | (simp [hb]; done) | (simp [hb]; omega))
          · refine m_iconst (v := 1) hC dX3_hasSince_29 (by decide) ?_
            refine m_ireti hC hR (Or.inr ⟨rfl, Or.inr rfl⟩) dX3_hasSince_30 ⟨Nat.le_of_ble_eq_true rfl, Nat.le_of_ble_eq_true rfl⟩ ?_ ?_
            · rw [anyI_yes (i := i) (by rw [← hx]; simp [hb]; omega) (by omega)]; rfl
            · rfl
  refine m_locals [1, 2, 3, 0] rfl ?_
  exact L2 101 0 v3_1 (by omega) (by omega) (by omega) (rfl)
theorem iX3_amountsSince_3 : ∀ w ∈ wsX30, w ∈ wsX3_amountsSince := by decide +kernel
theorem fX3_amountsSince_20 : Cond.fieldLink RX3 20 "Mutualledger$Trades" "count" "I" ∈ wsX3_amountsSince := by decide +kernel
set_option maxHeartbeats 4000000 in
set_option maxRecDepth 100000 in
theorem c_X3_amountsSince {g : mG} {S : Mem} {s d : Int} (hs : -2147483648 ≤ s ∧ s < 2147483648) (hd : -2147483648 ≤ d ∧ d < 2147483648) (hT : trdOk S) (hn : 0 ≤ S 3 1 ∧ S 3 1 ≤ 100) (l : Launch) : Does l yX3_amountsSince wsX3_amountsSince ({ frames := 4, cells := 0, slots := 0, locals := 90 } : Room) g [.ref (g.2.2 3), .int (z32 s), .int (z32 d)] S (PI (sI (amtF S s d) (S 3 1).toNat) S) := by
  refine Does.of (cc := cX3_amountsSince) (maxL := 6) (ret := (some .int)) (own := RX3) (by decide) rfl rfl (Nat.le_of_ble_eq_true rfl) ?_
  intro C hC hR
  show MW C g 6 (0, 0) 0 [(0, .ref (g.2.2 3)), (1, .int (z32 s)), (2, .int (z32 d))] [] S
  refine m_iconst (v := 0) hC dX3_amountsSince_0 (by decide) ?_
  refine m_istore_n hC dX3_amountsSince_1 (fun z9 => [(3, .int (z32 z9)), (0, .ref (g.2.2 3)), (1, .int (z32 s)), (2, .int (z32 d))]) (by decide) (fun _ => rfl) (fun v3_1 hv3_1 => ?_)
  refine m_iconst (v := 0) hC dX3_amountsSince_2 (by decide) ?_
  refine m_istore hC dX3_amountsSince_3 (fun z9 => [(4, .int (z32 z9)), (3, .int (z32 v3_1)), (0, .ref (g.2.2 3)), (1, .int (z32 s)), (2, .int (z32 d))]) (by decide) (fun _ => rfl) (fun v4_3 hv4_3 => ?_)
  have L5 : ∀ (n5 : Nat) (i : Nat) (x : Int) (sm : Int), S 3 1 - x < (n5 : Int) → x = (i : Int) → (i : Int) ≤ S 3 1 → sm = sI (amtF S s d) i → MW C g 6 (0, 0) 5 [(0, .ref (g.2.2 3)), (1, .int (z32 s)), (2, .int (z32 d)), (3, .int (z32 sm)), (4, .int (z32 x))] [] S := by
    intro n5
    induction n5 with
    | zero => intros; exfalso; omega
    | succ n5 ih5 =>
      intro i x sm hm5 hx hi hsm
      have hn1 := hn.1
      have hn2 := hn.2
      refine m_iload hC dX3_amountsSince_5 4 rfl ?_
      refine m_aload_n hC dX3_amountsSince_7 0 rfl ?_
      refine m_getI (o := 3) (j := 1) (ji := 1) (CN := RX3) (T := TX3) (N := 2) hC iX3_amountsSince_3 fX3_amountsSince_20 rfl dX3_amountsSince_8 rfl rfl (by decide) rfl rfl ?_
      refine m_icmp_ge (tgt := 74) hC dX3_amountsSince_11 (by decide) (by omega) (by omega) (fun c_11 => ?_) (fun c_11 => ?_)
      · refine m_iload_n hC dX3_amountsSince_74 3 rfl ?_
        refine m_ireti hC hR (Or.inl rfl) dX3_amountsSince_75 ⟨Nat.le_of_ble_eq_true rfl, Nat.le_of_ble_eq_true rfl⟩ ?_ ?_
        · rw [hsm, show i = (S 3 1).toNat by omega]
        · rfl
      · refine m_aload_n hC dX3_amountsSince_14 0 rfl ?_
        refine m_iload hC dX3_amountsSince_15 4 rfl ?_
        refine m_iload_n hC dX3_amountsSince_17 1 rfl ?_
        refine m_callVi (n := 2) hC (c_X3_isOf (by omega) hs hT) gX3_amountsSince_X3_isOf rfl dX3_amountsSince_18 rfl rfl (by decide +kernel) ⟨Nat.le_of_ble_eq_true rfl, Nat.le_of_ble_eq_true rfl⟩ rfl (Nat.le_of_ble_eq_true rfl) ⟨Nat.le_of_ble_eq_true rfl, Nat.le_of_ble_eq_true rfl⟩ rfl ?_
        refine m_if_eq (tgt := 39) hC dX3_amountsSince_21 (by decide) (by have := bI_rng (isof S s x); omega) (fun c_21 => ?_) (fun c_21 => ?_)
        · have hb := bI_0 c_21
          refine m_iconst (v := 0) hC dX3_amountsSince_39 (by decide) ?_
          refine m_istore hC dX3_amountsSince_40 (fun z9 => [(5, .int (z32 z9)), (0, .ref (g.2.2 3)), (1, .int (z32 s)), (2, .int (z32 d)), (3, .int (z32 sm)), (4, .int (z32 x))]) (by decide) (fun _ => rfl) (fun v5_40 hv5_40 => ?_)
          refine m_iload hC dX3_amountsSince_42 0 rfl ?_
          refine m_if_eq (tgt := 68) hC dX3_amountsSince_44 (by decide) (by omega) (fun c_44 => ?_) (fun c_44 => ?_)
          · refine m_iinc hC dX3_amountsSince_68 5 rfl (fun z9 => [(4, .int (z32 z9)), (5, .int (z32 v5_40)), (0, .ref (g.2.2 3)), (1, .int (z32 s)), (2, .int (z32 d)), (3, .int (z32 sm))]) (by decide) (fun _ => rfl) (fun v4_68 hv4_68 => ?_)
            refine m_goto (tgt := 5) hC dX3_amountsSince_71 (by decide) ?_
            refine m_locals [2, 3, 4, 5, 0] rfl ?_
            exact ih5 (i + 1) v4_68 sm (by omega) (by omega) (by omega) (by first | (exfalso; omega) | (rw [sI, ← hsm, ← hx]; unfold amtF; simp only [hb, Bool.false_eq_true, false_and, if_false, true_and]; first | omega | (split <;> omega)))
          · refine m_aload_n hC dX3_amountsSince_47 1 rfl ?_
            refine m_iload hC dX3_amountsSince_48 5 rfl ?_
            refine m_iconst (v := 4) hC dX3_amountsSince_50 (by decide) ?_
            refine m_callVi (n := 2) hC (c_X3_of (by omega) (by omega)) gX3_amountsSince_X3_of rfl dX3_amountsSince_51 rfl rfl (by decide +kernel) ⟨Nat.le_of_ble_eq_true rfl, Nat.le_of_ble_eq_true rfl⟩ rfl (Nat.le_of_ble_eq_true rfl) ⟨Nat.le_of_ble_eq_true rfl, Nat.le_of_ble_eq_true rfl⟩ rfl ?_
            refine m_iload_n hC dX3_amountsSince_54 3 rfl ?_
            refine m_icmp_lt (tgt := 68) hC dX3_amountsSince_55 (by decide) (hT _ _) (by omega) (fun c_55 => ?_) (fun c_55 => ?_)
            · refine m_iinc hC dX3_amountsSince_68 5 rfl (fun z9 => [(4, .int (z32 z9)), (5, .int (z32 v5_40)), (0, .ref (g.2.2 3)), (1, .int (z32 s)), (2, .int (z32 d)), (3, .int (z32 sm))]) (by decide) (fun _ => rfl) (fun v4_68 hv4_68 => ?_)
              refine m_goto (tgt := 5) hC dX3_amountsSince_71 (by decide) ?_
              refine m_locals [2, 3, 4, 5, 0] rfl ?_
              exact ih5 (i + 1) v4_68 sm (by omega) (by omega) (by omega) (by first | (exfalso; omega) | (rw [sI, ← hsm, ← hx]; unfold amtF; simp only [hb, Bool.false_eq_true, false_and, if_false, true_and]; first | omega | (split <;> omega)))
            · refine m_iload_n hC dX3_amountsSince_58 4 rfl ?_
              refine m_aload_n hC dX3_amountsSince_59 1 rfl ?_
              refine m_iload hC dX3_amountsSince_60 5 rfl ?_
              refine m_iconst (v := 3) hC dX3_amountsSince_62 (by decide) ?_
              refine m_callVi (n := 2) hC (c_X3_of (by omega) (by omega)) gX3_amountsSince_X3_of rfl dX3_amountsSince_63 rfl rfl (by decide +kernel) ⟨Nat.le_of_ble_eq_true rfl, Nat.le_of_ble_eq_true rfl⟩ rfl (Nat.le_of_ble_eq_true rfl) ⟨Nat.le_of_ble_eq_true rfl, Nat.le_of_ble_eq_true rfl⟩ rfl ?_
              refine m_iadd hC dX3_amountsSince_66 ?_
              refine m_istore_n hC dX3_amountsSince_67 (fun z9 => [(3, .int (z32 z9)), (5, .int (z32 v5_40)), (0, .ref (g.2.2 3)), (1, .int (z32 s)), (2, .int (z32 d)), (4, .int (z32 x))]) (by decide) (fun _ => rfl) (fun v3_67 hv3_67 => ?_)
              refine m_iinc hC dX3_amountsSince_68 5 rfl (fun z9 => [(4, .int (z32 z9)), (3, .int (z32 v3_67)), (5, .int (z32 v5_40)), (0, .ref (g.2.2 3)), (1, .int (z32 s)), (2, .int (z32 d))]) (by decide) (fun _ => rfl) (fun v4_68 hv4_68 => ?_)
              refine m_goto (tgt := 5) hC dX3_amountsSince_71 (by decide) ?_
              refine m_locals [3, 4, 5, 1, 0] rfl ?_
              exact ih5 (i + 1) v4_68 v3_67 (by omega) (by omega) (by omega) (by first | (exfalso; omega) | (rw [sI, ← hsm, ← hx]; unfold amtF; simp only [hb, Bool.false_eq_true, false_and, if_false, true_and]; first | omega | (split <;> omega)))
        · have hb := bI_1 c_21
          refine m_aload_n hC dX3_amountsSince_24 0 rfl ?_
          refine m_iload hC dX3_amountsSince_25 4 rfl ?_
          refine m_iconst (v := 0) hC dX3_amountsSince_27 (by decide) ?_
          refine m_callVi (n := 2) hC (c_X3_of (by omega) (by omega)) gX3_amountsSince_X3_of rfl dX3_amountsSince_28 rfl rfl (by decide +kernel) ⟨Nat.le_of_ble_eq_true rfl, Nat.le_of_ble_eq_true rfl⟩ rfl (Nat.le_of_ble_eq_true rfl) ⟨Nat.le_of_ble_eq_true rfl, Nat.le_of_ble_eq_true rfl⟩ rfl ?_
          refine m_iconst (v := 2) hC dX3_amountsSince_31 (by decide) ?_
          refine m_icmp_eq (tgt := 39) hC dX3_amountsSince_32 (by decide) (hT _ _) (by omega) (fun c_32 => ?_) (fun c_32 => ?_)
          · refine m_iconst (v := 0) hC dX3_amountsSince_39 (by decide) ?_
            refine m_istore hC dX3_amountsSince_40 (fun z9 => [(5, .int (z32 z9)), (0, .ref (g.2.2 3)), (1, .int (z32 s)), (2, .int (z32 d)), (3, .int (z32 sm)), (4, .int (z32 x))]) (by decide) (fun _ => rfl) (fun v5_40 hv5_40 => ?_)
            refine m_iload hC dX3_amountsSince_42 0 rfl ?_
            refine m_if_eq (tgt := 68) hC dX3_amountsSince_44 (by decide) (by omega) (fun c_44 => ?_) (fun c_44 => ?_)
            · refine m_iinc hC dX3_amountsSince_68 5 rfl (fun z9 => [(4, .int (z32 z9)), (5, .int (z32 v5_40)), (0, .ref (g.2.2 3)), (1, .int (z32 s)), (2, .int (z32 d)), (3, .int (z32 sm))]) (by decide) (fun _ => rfl) (fun v4_68 hv4_68 => ?_)
              refine m_goto (tgt := 5) hC dX3_amountsSince_71 (by decide) ?_
              refine m_locals [2, 3, 4, 5, 0] rfl ?_
              exact ih5 (i + 1) v4_68 sm (by omega) (by omega) (by omega) (by first | (exfalso; omega) | (rw [sI, ← hsm, ← hx]; unfold amtF; simp only [hb, Bool.false_eq_true, false_and, if_false, true_and]; first | omega | (split <;> omega)))
            · refine m_aload_n hC dX3_amountsSince_47 1 rfl ?_
              refine m_iload hC dX3_amountsSince_48 5 rfl ?_
              refine m_iconst (v := 4) hC dX3_amountsSince_50 (by decide) ?_
              refine m_callVi (n := 2) hC (c_X3_of (by omega) (by omega)) gX3_amountsSince_X3_of rfl dX3_amountsSince_51 rfl rfl (by decide +kernel) ⟨Nat.le_of_ble_eq_true rfl, Nat.le_of_ble_eq_true rfl⟩ rfl (Nat.le_of_ble_eq_true rfl) ⟨Nat.le_of_ble_eq_true rfl, Nat.le_of_ble_eq_true rfl⟩ rfl ?_
              refine m_iload_n hC dX3_amountsSince_54 3 rfl ?_
              refine m_icmp_lt (tgt := 68) hC dX3_amountsSince_55 (by decide) (hT _ _) (by omega) (fun c_55 => ?_) (fun c_55 => ?_)
              · refine m_iinc hC dX3_amountsSince_68 5 rfl (fun z9 => [(4, .int (z32 z9)), (5, .int (z32 v5_40)), (0, .ref (g.2.2 3)), (1, .int (z32 s)), (2, .int (z32 d)), (3, .int (z32 sm))]) (by decide) (fun _ => rfl) (fun v4_68 hv4_68 => ?_)
                refine m_goto (tgt := 5) hC dX3_amountsSince_71 (by decide) ?_
                refine m_locals [2, 3, 4, 5, 0] rfl ?_
                exact ih5 (i + 1) v4_68 sm (by omega) (by omega) (by omega) (by first | (exfalso; omega) | (rw [sI, ← hsm, ← hx]; unfold amtF; simp only [hb, Bool.false_eq_true, false_and, if_false, true_and]; first | omega | (split <;> omega)))
              · refine m_iload_n hC dX3_amountsSince_58 4 rfl ?_
                refine m_aload_n hC dX3_amountsSince_59 1 rfl ?_
                refine m_iload hC dX3_amountsSince_60 5 rfl ?_
                refine m_iconst (v := 3) hC dX3_amountsSince_62 (by decide) ?_
                refine m_callVi (n := 2) hC (c_X3_of (by omega) (by omega)) gX3_amountsSince_X3_of rfl dX3_amountsSince_63 rfl rfl (by decide +kernel) ⟨Nat.le_of_ble_eq_true rfl, Nat.le_of_ble_eq_true rfl⟩ rfl (Nat.le_of_ble_eq_true rfl) ⟨Nat.le_of_ble_eq_true rfl, Nat.le_of_ble_eq_true rfl⟩ rfl ?_
                refine m_iadd hC dX3_amountsSince_66 ?_
                refine m_istore_n hC dX3_amountsSince_67 (fun z9 => [(3, .int (z32 z9)), (5, .int (z32 v5_40)), (0, .ref (g.2.2 3)), (1, .int (z32 s)), (2, .int (z32 d)), (4, .int (z32 x))]) (by decide) (fun _ => rfl) (fun v3_67 hv3_67 => ?_)
                refine m_iinc hC dX3_amountsSince_68 5 rfl (fun z9 => [(4, .int (z32 z9)), (3, .int (z32 v3_67)), (5, .int (z32 v5_40)), (0, .ref (g.2.2 3)), (1, .int (z32 s)), (2, .int (z32 d))]) (by decide) (fun _ => rfl) (fun v4_68 hv4_68 => ?_)
                refine m_goto (tgt := 5) hC dX3_amountsSince_71 (by decide) ?_
                refine m_locals [3, 4, 5, 1, 0] rfl ?_
                exact ih5 (i + 1) v4_68 v3_67 (by omega) (by omega) (by omega) (by first | (exfalso; omega) | (rw [sI, ← hsm, ← hx]; unfold amtF; simp only [hb, Bool.false_eq_true, false_and, if_false, true_and]; first | omega | (split <;> omega)))
          · refine m_iconst (v := 1) hC dX3_amountsSince_35 (by decide) ?_
            refine m_goto (tgt := 40) hC dX3_amountsSince_36 (by decide) ?_
            refine m_istore hC dX3_amountsSince_40 (fun z9 => [(5, .int (z32 z9)), (0, .ref (g.2.2 3)), (1, .int (z32 s)), (2, .int (z32 d)), (3, .int (z32 sm)), (4, .int (z32 x))]) (by decide) (fun _ => rfl) (fun v5_40 hv5_40 => ?_)
            refine m_iload hC dX3_amountsSince_42 0 rfl ?_
            refine m_if_eq (tgt := 68) hC dX3_amountsSince_44 (by decide) (by omega) (fun c_44 => ?_) (fun c_44 => ?_)
            · refine m_iinc hC dX3_amountsSince_68 5 rfl (fun z9 => [(4, .int (z32 z9)), (5, .int (z32 v5_40)), (0, .ref (g.2.2 3)), (1, .int (z32 s)), (2, .int (z32 d)), (3, .int (z32 sm))]) (by decide) (fun _ => rfl) (fun v4_68 hv4_68 => ?_)
              refine m_goto (tgt := 5) hC dX3_amountsSince_71 (by decide) ?_
              refine m_locals [2, 3, 4, 5, 0] rfl ?_
              exact ih5 (i + 1) v4_68 sm (by omega) (by omega) (by omega) (by first | (exfalso; omega) | (rw [sI, ← hsm, ← hx]; unfold amtF; simp only [hb, Bool.false_eq_true, false_and, if_false, true_and]; first | omega | (split <;> omega)))
            · refine m_aload_n hC dX3_amountsSince_47 1 rfl ?_
              refine m_iload hC dX3_amountsSince_48 5 rfl ?_
              refine m_iconst (v := 4) hC dX3_amountsSince_50 (by decide) ?_
              refine m_callVi (n := 2) hC (c_X3_of (by omega) (by omega)) gX3_amountsSince_X3_of rfl dX3_amountsSince_51 rfl rfl (by decide +kernel) ⟨Nat.le_of_ble_eq_true rfl, Nat.le_of_ble_eq_true rfl⟩ rfl (Nat.le_of_ble_eq_true rfl) ⟨Nat.le_of_ble_eq_true rfl, Nat.le_of_ble_eq_true rfl⟩ rfl ?_
              refine m_iload_n hC dX3_amountsSince_54 3 rfl ?_
              refine m_icmp_lt (tgt := 68) hC dX3_amountsSince_55 (by decide) (hT _ _) (by omega) (fun c_55 => ?_) (fun c_55 => ?_)
              · refine m_iinc hC dX3_amountsSince_68 5 rfl (fun z9 => [(4, .int (z32 z9)), (5, .int (z32 v5_40)), (0, .ref (g.2.2 3)), (1, .int (z32 s)), (2, .int (z32 d)), (3, .int (z32 sm))]) (by decide) (fun _ => rfl) (fun v4_68 hv4_68 => ?_)
                refine m_goto (tgt := 5) hC dX3_amountsSince_71 (by decide) ?_
                refine m_locals [2, 3, 4, 5, 0] rfl ?_
                exact ih5 (i + 1) v4_68 sm (by omega) (by omega) (by omega) (by first | (exfalso; omega) | (rw [sI, ← hsm, ← hx]; unfold amtF; simp only [hb, Bool.false_eq_true, false_and, if_false, true_and]; first | omega | (split <;> omega)))
              · refine m_iload_n hC dX3_amountsSince_58 4 rfl ?_
                refine m_aload_n hC dX3_amountsSince_59 1 rfl ?_
                refine m_iload hC dX3_amountsSince_60 5 rfl ?_
                refine m_iconst (v := 3) hC dX3_amountsSince_62 (by decide) ?_
                refine m_callVi (n := 2) hC (c_X3_of (by omega) (by omega)) gX3_amountsSince_X3_of rfl dX3_amountsSince_63 rfl rfl (by decide +kernel) ⟨Nat.le_of_ble_eq_true rfl, Nat.le_of_ble_eq_true rfl⟩ rfl (Nat.le_of_ble_eq_true rfl) ⟨Nat.le_of_ble_eq_true rfl, Nat.le_of_ble_eq_true rfl⟩ rfl ?_
                refine m_iadd hC dX3_amountsSince_66 ?_
                refine m_istore_n hC dX3_amountsSince_67 (fun z9 => [(3, .int (z32 z9)), (5, .int (z32 v5_40)), (0, .ref (g.2.2 3)), (1, .int (z32 s)), (2, .int (z32 d)), (4, .int (z32 x))]) (by decide) (fun _ => rfl) (fun v3_67 hv3_67 => ?_)
                refine m_iinc hC dX3_amountsSince_68 5 rfl (fun z9 => [(4, .int (z32 z9)), (3, .int (z32 v3_67)), (5, .int (z32 v5_40)), (0, .ref (g.2.2 3)), (1, .int (z32 s)), (2, .int (z32 d))]) (by decide) (fun _ => rfl) (fun v4_68 hv4_68 => ?_)
                refine m_goto (tgt := 5) hC dX3_amountsSince_71 (by decide) ?_
                refine m_locals [3, 4, 5, 1, 0] rfl ?_
                exact ih5 (i + 1) v4_68 v3_67 (by omega) (by omega) (by omega) (by first | (exfalso; omega) | (rw [sI, ← hsm, ← hx]; unfold amtF; simp only [hb, Bool.false_eq_true, false_and, if_false, true_and]; first | omega | (split <;> omega)))
  refine m_locals [2, 3, 4, 1, 0] rfl ?_
  exact L5 101 0 v4_3 v3_1 (by omega) (by omega) (by omega) (hv3_1)
theorem iX3_balanceOf_3 : ∀ w ∈ wsX30, w ∈ wsX3_balanceOf := by decide +kernel
theorem fX3_balanceOf_20 : Cond.fieldLink RX3 20 "Mutualledger$Trades" "count" "I" ∈ wsX3_balanceOf := by decide +kernel
set_option maxHeartbeats 4000000 in
set_option maxRecDepth 100000 in
theorem c_X3_balanceOf {g : mG} {S : Mem} {s : Int} (hs : -2147483648 ≤ s ∧ s < 2147483648) (hT : trdOk S) (hn : 0 ≤ S 3 1 ∧ S 3 1 ≤ 100) (l : Launch) : Does l yX3_balanceOf wsX3_balanceOf ({ frames := 3, cells := 0, slots := 0, locals := 68 } : Room) g [.ref (g.2.2 3), .int (z32 s)] S (PI (sI (balF S s) (S 3 1).toNat) S) := by
  refine Does.of (cc := cX3_balanceOf) (maxL := 4) (ret := (some .int)) (own := RX3) (by decide) rfl rfl (Nat.le_of_ble_eq_true rfl) ?_
  intro C hC hR
  show MW C g 4 (0, 0) 0 [(0, .ref (g.2.2 3)), (1, .int (z32 s))] [] S
  refine m_iconst (v := 0) hC dX3_balanceOf_0 (by decide) ?_
  refine m_istore_n hC dX3_balanceOf_1 (fun z9 => [(2, .int (z32 z9)), (0, .ref (g.2.2 3)), (1, .int (z32 s))]) (by decide) (fun _ => rfl) (fun v2_1 hv2_1 => ?_)
  refine m_iconst (v := 0) hC dX3_balanceOf_2 (by decide) ?_
  refine m_istore_n hC dX3_balanceOf_3 (fun z9 => [(3, .int (z32 z9)), (2, .int (z32 v2_1)), (0, .ref (g.2.2 3)), (1, .int (z32 s))]) (by decide) (fun _ => rfl) (fun v3_3 hv3_3 => ?_)
  have L4 : ∀ (n4 : Nat) (i : Nat) (x : Int) (sm : Int), S 3 1 - x < (n4 : Int) → x = (i : Int) → (i : Int) ≤ S 3 1 → sm = sI (balF S s) i → MW C g 4 (0, 0) 4 [(0, .ref (g.2.2 3)), (1, .int (z32 s)), (2, .int (z32 sm)), (3, .int (z32 x))] [] S := by
    intro n4
    induction n4 with
    | zero => intros; exfalso; omega
    | succ n4 ih4 =>
      intro i x sm hm4 hx hi hsm
      have hn1 := hn.1
      have hn2 := hn.2
      refine m_iload_n hC dX3_balanceOf_4 3 rfl ?_
      refine m_aload_n hC dX3_balanceOf_5 0 rfl ?_
      refine m_getI (o := 3) (j := 1) (ji := 1) (CN := RX3) (T := TX3) (N := 2) hC iX3_balanceOf_3 fX3_balanceOf_20 rfl dX3_balanceOf_6 rfl rfl (by decide) rfl rfl ?_
      refine m_icmp_ge (tgt := 76) hC dX3_balanceOf_9 (by decide) (by omega) (by omega) (fun c_9 => ?_) (fun c_9 => ?_)
      · refine m_iload_n hC dX3_balanceOf_76 2 rfl ?_
        refine m_ireti hC hR (Or.inl rfl) dX3_balanceOf_77 ⟨Nat.le_of_ble_eq_true rfl, Nat.le_of_ble_eq_true rfl⟩ ?_ ?_
        · rw [hsm, show i = (S 3 1).toNat by omega]
        · rfl
      · refine m_aload_n hC dX3_balanceOf_12 0 rfl ?_
        refine m_iload_n hC dX3_balanceOf_13 3 rfl ?_
        refine m_iconst (v := 0) hC dX3_balanceOf_14 (by decide) ?_
        refine m_callVi (n := 2) hC (c_X3_of (by omega) (by omega)) gX3_balanceOf_X3_of rfl dX3_balanceOf_15 rfl rfl (by decide +kernel) ⟨Nat.le_of_ble_eq_true rfl, Nat.le_of_ble_eq_true rfl⟩ rfl (Nat.le_of_ble_eq_true rfl) ⟨Nat.le_of_ble_eq_true rfl, Nat.le_of_ble_eq_true rfl⟩ rfl ?_
        refine m_iconst (v := 2) hC dX3_balanceOf_18 (by decide) ?_
        refine m_icmp_eq (tgt := 41) hC dX3_balanceOf_19 (by decide) (hT _ _) (by omega) (fun c_19 => ?_) (fun c_19 => ?_)
        · refine m_aload_n hC dX3_balanceOf_41 0 rfl ?_
          refine m_iload_n hC dX3_balanceOf_42 3 rfl ?_
          refine m_iconst (v := 0) hC dX3_balanceOf_43 (by decide) ?_
          refine m_callVi (n := 2) hC (c_X3_of (by omega) (by omega)) gX3_balanceOf_X3_of rfl dX3_balanceOf_44 rfl rfl (by decide +kernel) ⟨Nat.le_of_ble_eq_true rfl, Nat.le_of_ble_eq_true rfl⟩ rfl (Nat.le_of_ble_eq_true rfl) ⟨Nat.le_of_ble_eq_true rfl, Nat.le_of_ble_eq_true rfl⟩ rfl ?_
          refine m_iconst (v := 2) hC dX3_balanceOf_47 (by decide) ?_
          refine m_icmp_eq (tgt := 70) hC dX3_balanceOf_48 (by decide) (hT _ _) (by omega) (fun c_48 => ?_) (fun c_48 => ?_)
          · refine m_iinc hC dX3_balanceOf_70 3 rfl (fun z9 => [(3, .int (z32 z9)), (0, .ref (g.2.2 3)), (1, .int (z32 s)), (2, .int (z32 sm))]) (by decide) (fun _ => rfl) (fun v3_70 hv3_70 => ?_)
            refine m_goto (tgt := 4) hC dX3_balanceOf_73 (by decide) ?_
            refine m_locals [1, 2, 3, 0] rfl ?_
            exact ih4 (i + 1) v3_70 sm (by omega) (by omega) (by omega) (by rw [sI, ← hsm, ← hx]; unfold balF; split <;> split <;> omega)
          · refine m_aload_n hC dX3_balanceOf_51 0 rfl ?_
            refine m_iload_n hC dX3_balanceOf_52 3 rfl ?_
            refine m_iconst (v := 1) hC dX3_balanceOf_53 (by decide) ?_
            refine m_callVi (n := 2) hC (c_X3_of (by omega) (by omega)) gX3_balanceOf_X3_of rfl dX3_balanceOf_54 rfl rfl (by decide +kernel) ⟨Nat.le_of_ble_eq_true rfl, Nat.le_of_ble_eq_true rfl⟩ rfl (Nat.le_of_ble_eq_true rfl) ⟨Nat.le_of_ble_eq_true rfl, Nat.le_of_ble_eq_true rfl⟩ rfl ?_
            refine m_iload_n hC dX3_balanceOf_57 1 rfl ?_
            refine m_icmp_ne (tgt := 70) hC dX3_balanceOf_58 (by decide) (hT _ _) (by omega) (fun c_58 => ?_) (fun c_58 => ?_)
            · refine m_iinc hC dX3_balanceOf_70 3 rfl (fun z9 => [(3, .int (z32 z9)), (0, .ref (g.2.2 3)), (1, .int (z32 s)), (2, .int (z32 sm))]) (by decide) (fun _ => rfl) (fun v3_70 hv3_70 => ?_)
              refine m_goto (tgt := 4) hC dX3_balanceOf_73 (by decide) ?_
              refine m_locals [1, 2, 3, 0] rfl ?_
              exact ih4 (i + 1) v3_70 sm (by omega) (by omega) (by omega) (by rw [sI, ← hsm, ← hx]; unfold balF; split <;> split <;> omega)
            · refine m_iload_n hC dX3_balanceOf_61 2 rfl ?_
              refine m_aload_n hC dX3_balanceOf_62 0 rfl ?_
              refine m_iload_n hC dX3_balanceOf_63 3 rfl ?_
              refine m_iconst (v := 3) hC dX3_balanceOf_64 (by decide) ?_
              refine m_callVi (n := 2) hC (c_X3_of (by omega) (by omega)) gX3_balanceOf_X3_of rfl dX3_balanceOf_65 rfl rfl (by decide +kernel) ⟨Nat.le_of_ble_eq_true rfl, Nat.le_of_ble_eq_true rfl⟩ rfl (Nat.le_of_ble_eq_true rfl) ⟨Nat.le_of_ble_eq_true rfl, Nat.le_of_ble_eq_true rfl⟩ rfl ?_
              refine m_isub hC dX3_balanceOf_68 ?_
              refine m_istore_n hC dX3_balanceOf_69 (fun z9 => [(2, .int (z32 z9)), (0, .ref (g.2.2 3)), (1, .int (z32 s)), (3, .int (z32 x))]) (by decide) (fun _ => rfl) (fun v2_69 hv2_69 => ?_)
              refine m_iinc hC dX3_balanceOf_70 3 rfl (fun z9 => [(3, .int (z32 z9)), (2, .int (z32 v2_69)), (0, .ref (g.2.2 3)), (1, .int (z32 s))]) (by decide) (fun _ => rfl) (fun v3_70 hv3_70 => ?_)
              refine m_goto (tgt := 4) hC dX3_balanceOf_73 (by decide) ?_
              refine m_locals [2, 3, 1, 0] rfl ?_
              exact ih4 (i + 1) v3_70 v2_69 (by omega) (by omega) (by omega) (by rw [sI, ← hsm, ← hx]; unfold balF; split <;> split <;> omega)
        · refine m_aload_n hC dX3_balanceOf_22 0 rfl ?_
          refine m_iload_n hC dX3_balanceOf_23 3 rfl ?_
          refine m_iconst (v := 2) hC dX3_balanceOf_24 (by decide) ?_
          refine m_callVi (n := 2) hC (c_X3_of (by omega) (by omega)) gX3_balanceOf_X3_of rfl dX3_balanceOf_25 rfl rfl (by decide +kernel) ⟨Nat.le_of_ble_eq_true rfl, Nat.le_of_ble_eq_true rfl⟩ rfl (Nat.le_of_ble_eq_true rfl) ⟨Nat.le_of_ble_eq_true rfl, Nat.le_of_ble_eq_true rfl⟩ rfl ?_
          refine m_iload_n hC dX3_balanceOf_28 1 rfl ?_
          refine m_icmp_ne (tgt := 41) hC dX3_balanceOf_29 (by decide) (hT _ _) (by omega) (fun c_29 => ?_) (fun c_29 => ?_)
          · refine m_aload_n hC dX3_balanceOf_41 0 rfl ?_
            refine m_iload_n hC dX3_balanceOf_42 3 rfl ?_
            refine m_iconst (v := 0) hC dX3_balanceOf_43 (by decide) ?_
            refine m_callVi (n := 2) hC (c_X3_of (by omega) (by omega)) gX3_balanceOf_X3_of rfl dX3_balanceOf_44 rfl rfl (by decide +kernel) ⟨Nat.le_of_ble_eq_true rfl, Nat.le_of_ble_eq_true rfl⟩ rfl (Nat.le_of_ble_eq_true rfl) ⟨Nat.le_of_ble_eq_true rfl, Nat.le_of_ble_eq_true rfl⟩ rfl ?_
            refine m_iconst (v := 2) hC dX3_balanceOf_47 (by decide) ?_
            refine m_icmp_eq (tgt := 70) hC dX3_balanceOf_48 (by decide) (hT _ _) (by omega) (fun c_48 => ?_) (fun c_48 => ?_)
            · refine m_iinc hC dX3_balanceOf_70 3 rfl (fun z9 => [(3, .int (z32 z9)), (0, .ref (g.2.2 3)), (1, .int (z32 s)), (2, .int (z32 sm))]) (by decide) (fun _ => rfl) (fun v3_70 hv3_70 => ?_)
              refine m_goto (tgt := 4) hC dX3_balanceOf_73 (by decide) ?_
              refine m_locals [1, 2, 3, 0] rfl ?_
              exact ih4 (i + 1) v3_70 sm (by omega) (by omega) (by omega) (by rw [sI, ← hsm, ← hx]; unfold balF; split <;> split <;> omega)
            · refine m_aload_n hC dX3_balanceOf_51 0 rfl ?_
              refine m_iload_n hC dX3_balanceOf_52 3 rfl ?_
              refine m_iconst (v := 1) hC dX3_balanceOf_53 (by decide) ?_
              refine m_callVi (n := 2) hC (c_X3_of (by omega) (by omega)) gX3_balanceOf_X3_of rfl dX3_balanceOf_54 rfl rfl (by decide +kernel) ⟨Nat.le_of_ble_eq_true rfl, Nat.le_of_ble_eq_true rfl⟩ rfl (Nat.le_of_ble_eq_true rfl) ⟨Nat.le_of_ble_eq_true rfl, Nat.le_of_ble_eq_true rfl⟩ rfl ?_
              refine m_iload_n hC dX3_balanceOf_57 1 rfl ?_
              refine m_icmp_ne (tgt := 70) hC dX3_balanceOf_58 (by decide) (hT _ _) (by omega) (fun c_58 => ?_) (fun c_58 => ?_)
              · refine m_iinc hC dX3_balanceOf_70 3 rfl (fun z9 => [(3, .int (z32 z9)), (0, .ref (g.2.2 3)), (1, .int (z32 s)), (2, .int (z32 sm))]) (by decide) (fun _ => rfl) (fun v3_70 hv3_70 => ?_)
                refine m_goto (tgt := 4) hC dX3_balanceOf_73 (by decide) ?_
                refine m_locals [1, 2, 3, 0] rfl ?_
                exact ih4 (i + 1) v3_70 sm (by omega) (by omega) (by omega) (by rw [sI, ← hsm, ← hx]; unfold balF; split <;> split <;> omega)
              · refine m_iload_n hC dX3_balanceOf_61 2 rfl ?_
                refine m_aload_n hC dX3_balanceOf_62 0 rfl ?_
                refine m_iload_n hC dX3_balanceOf_63 3 rfl ?_
                refine m_iconst (v := 3) hC dX3_balanceOf_64 (by decide) ?_
                refine m_callVi (n := 2) hC (c_X3_of (by omega) (by omega)) gX3_balanceOf_X3_of rfl dX3_balanceOf_65 rfl rfl (by decide +kernel) ⟨Nat.le_of_ble_eq_true rfl, Nat.le_of_ble_eq_true rfl⟩ rfl (Nat.le_of_ble_eq_true rfl) ⟨Nat.le_of_ble_eq_true rfl, Nat.le_of_ble_eq_true rfl⟩ rfl ?_
                refine m_isub hC dX3_balanceOf_68 ?_
                refine m_istore_n hC dX3_balanceOf_69 (fun z9 => [(2, .int (z32 z9)), (0, .ref (g.2.2 3)), (1, .int (z32 s)), (3, .int (z32 x))]) (by decide) (fun _ => rfl) (fun v2_69 hv2_69 => ?_)
                refine m_iinc hC dX3_balanceOf_70 3 rfl (fun z9 => [(3, .int (z32 z9)), (2, .int (z32 v2_69)), (0, .ref (g.2.2 3)), (1, .int (z32 s))]) (by decide) (fun _ => rfl) (fun v3_70 hv3_70 => ?_)
                refine m_goto (tgt := 4) hC dX3_balanceOf_73 (by decide) ?_
                refine m_locals [2, 3, 1, 0] rfl ?_
                exact ih4 (i + 1) v3_70 v2_69 (by omega) (by omega) (by omega) (by rw [sI, ← hsm, ← hx]; unfold balF; split <;> split <;> omega)
          · refine m_iload_n hC dX3_balanceOf_32 2 rfl ?_
            refine m_aload_n hC dX3_balanceOf_33 0 rfl ?_
            refine m_iload_n hC dX3_balanceOf_34 3 rfl ?_
            refine m_iconst (v := 3) hC dX3_balanceOf_35 (by decide) ?_
            refine m_callVi (n := 2) hC (c_X3_of (by omega) (by omega)) gX3_balanceOf_X3_of rfl dX3_balanceOf_36 rfl rfl (by decide +kernel) ⟨Nat.le_of_ble_eq_true rfl, Nat.le_of_ble_eq_true rfl⟩ rfl (Nat.le_of_ble_eq_true rfl) ⟨Nat.le_of_ble_eq_true rfl, Nat.le_of_ble_eq_true rfl⟩ rfl ?_
            refine m_iadd hC dX3_balanceOf_39 ?_
            refine m_istore_n hC dX3_balanceOf_40 (fun z9 => [(2, .int (z32 z9)), (0, .ref (g.2.2 3)), (1, .int (z32 s)), (3, .int (z32 x))]) (by decide) (fun _ => rfl) (fun v2_40 hv2_40 => ?_)
            refine m_aload_n hC dX3_balanceOf_41 1 rfl ?_
            refine m_iload_n hC dX3_balanceOf_42 3 rfl ?_
            refine m_iconst (v := 0) hC dX3_balanceOf_43 (by decide) ?_
            refine m_callVi (n := 2) hC (c_X3_of (by omega) (by omega)) gX3_balanceOf_X3_of rfl dX3_balanceOf_44 rfl rfl (by decide +kernel) ⟨Nat.le_of_ble_eq_true rfl, Nat.le_of_ble_eq_true rfl⟩ rfl (Nat.le_of_ble_eq_true rfl) ⟨Nat.le_of_ble_eq_true rfl, Nat.le_of_ble_eq_true rfl⟩ rfl ?_
            refine m_iconst (v := 2) hC dX3_balanceOf_47 (by decide) ?_
            refine m_icmp_eq (tgt := 70) hC dX3_balanceOf_48 (by decide) (hT _ _) (by omega) (fun c_48 => ?_) (fun c_48 => ?_)
            · refine m_iinc hC dX3_balanceOf_70 3 rfl (fun z9 => [(3, .int (z32 z9)), (2, .int (z32 v2_40)), (0, .ref (g.2.2 3)), (1, .int (z32 s))]) (by decide) (fun _ => rfl) (fun v3_70 hv3_70 => ?_)
              refine m_goto (tgt := 4) hC dX3_balanceOf_73 (by decide) ?_
              refine m_locals [2, 3, 1, 0] rfl ?_
              exact ih4 (i + 1) v3_70 v2_40 (by omega) (by omega) (by omega) (by rw [sI, ← hsm, ← hx]; unfold balF; split <;> split <;> omega)
            · refine m_aload_n hC dX3_balanceOf_51 1 rfl ?_
              refine m_iload_n hC dX3_balanceOf_52 3 rfl ?_
              refine m_iconst (v := 1) hC dX3_balanceOf_53 (by decide) ?_
              refine m_callVi (n := 2) hC (c_X3_of (by omega) (by omega)) gX3_balanceOf_X3_of rfl dX3_balanceOf_54 rfl rfl (by decide +kernel) ⟨Nat.le_of_ble_eq_true rfl, Nat.le_of_ble_eq_true rfl⟩ rfl (Nat.le_of_ble_eq_true rfl) ⟨Nat.le_of_ble_eq_true rfl, Nat.le_of_ble_eq_true rfl⟩ rfl ?_
              refine m_iload_n hC dX3_balanceOf_57 2 rfl ?_
              refine m_icmp_ne (tgt := 70) hC dX3_balanceOf_58 (by decide) (hT _ _) (by omega) (fun c_58 => ?_) (fun c_58 => ?_)
              · refine m_iinc hC dX3_balanceOf_70 3 rfl (fun z9 => [(3, .int (z32 z9)), (2, .int (z32 v2_40)), (0, .ref (g.2.2 3)), (1, .int (z32 s))]) (by decide) (fun _ => rfl) (fun v3_70 hv3_70 => ?_)
                refine m_goto (tgt := 4) hC dX3_balanceOf_73 (by decide) ?_
                refine m_locals [2, 3, 1, 0] rfl ?_
                exact ih4 (i + 1) v3_70 v2_40 (by omega) (by omega) (by omega) (by rw [sI, ← hsm, ← hx]; unfold balF; split <;> split <;> omega)
              · refine m_iload_n hC dX3_balanceOf_61 0 rfl ?_
                refine m_aload_n hC dX3_balanceOf_62 1 rfl ?_
                refine m_iload_n hC dX3_balanceOf_63 3 rfl ?_
                refine m_iconst (v := 3) hC dX3_balanceOf_64 (by decide) ?_
                refine m_callVi (n := 2) hC (c_X3_of (by omega) (by omega)) gX3_balanceOf_X3_of rfl dX3_balanceOf_65 rfl rfl (by decide +kernel) ⟨Nat.le_of_ble_eq_true rfl, Nat.le_of_ble_eq_true rfl⟩ rfl (Nat.le_of_ble_eq_true rfl) ⟨Nat.le_of_ble_eq_true rfl, Nat.le_of_ble_eq_true rfl⟩ rfl ?_
                refine m_isub hC dX3_balanceOf_68 ?_
                refine m_istore_n hC dX3_balanceOf_69 (fun z9 => [(2, .int (z32 z9)), (0, .ref (g.2.2 3)), (1, .int (z32 s)), (3, .int (z32 x))]) (by decide) (fun _ => rfl) (fun v2_69 hv2_69 => ?_)
                refine m_iinc hC dX3_balanceOf_70 3 rfl (fun z9 => [(3, .int (z32 z9)), (2, .int (z32 v2_69)), (0, .ref (g.2.2 3)), (1, .int (z32 s))]) (by decide) (fun _ => rfl) (fun v3_70 hv3_70 => ?_)
                refine m_goto (tgt := 4) hC dX3_balanceOf_73 (by decide) ?_
                refine m_locals [2, 3, 1, 0] rfl ?_
                exact ih4 (i + 1) v3_70 v2_69 (by omega) (by omega) (by omega) (by rw [sI, ← hsm, ← hx]; unfold balF; split <;> split <;> omega)
  refine m_locals [2, 3, 1, 0] rfl ?_
  exact L4 101 0 v3_3 v2_1 (by omega) (by omega) (by omega) (hv2_1)
