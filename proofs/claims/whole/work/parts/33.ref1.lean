/-! ===== the reference: small methods, leaving, fees ===== -/
theorem lgR_step {S : Mem} (s c g : Int) (x : Fn × Fn × Fn) : mset (mput (mput (mput S 20 x.1) 22 x.2.1) 20 (tkF (mput (mput S 20 x.1) 22 x.2.1 20) g s c (mn (x.1 (ix s c)) (x.2.1 (ix g s))))) 22 (ix g s) (mput (mput (mput S 20 x.1) 22 x.2.1) 20 (tkF (mput (mput S 20 x.1) 22 x.2.1 20) g s c (mn (x.1 (ix s c)) (x.2.1 (ix g s)))) 22 (ix g s) - mn (x.1 (ix s c)) (x.2.1 (ix g s))) = mput (mput S 20 (lgF s c g x).1) 22 (lgF s c g x).2.1 := by
  obtain ⟨a, b, d⟩ := x
  rw [mset_mput]
  funext o
  simp only [lgF, mput, adF]
  by_cases h22 : o = 22
  · subst h22; simp [Int.sub_eq_add_neg]
  · by_cases h20 : o = 20
    · subst h20; simp
    · simp [h20, h22]
theorem iX5_thrown_5 : ∀ w ∈ wsX50, w ∈ wsX5_thrown := by decide +kernel
theorem fX5_thrown_54 : Cond.fieldLink RX5 54 "MutualledgerModel" "thrown" "I" ∈ wsX5_thrown := by decide +kernel
set_option maxHeartbeats 4000000 in
set_option maxRecDepth 100000 in
theorem c_X5_thrown {g : mG} {S : Mem} (l : Launch) : Does l yX5_thrown wsX5_thrown ({ frames := 0, cells := 0, slots := 0, locals := 0 } : Room) g [.ref (g.2.2 18)] S (PI (S 18 0) S) := by
  refine Does.of (cc := cX5_thrown) (maxL := 1) (ret := (some .int)) (own := RX5) (by decide) rfl rfl (Nat.le_of_ble_eq_true rfl) ?_
  intro C hC hR
  show MW C g 1 (0, 0) 0 [(0, .ref (g.2.2 18))] [] S
  refine m_aload_n hC dX5_thrown_0 0 rfl ?_
  refine m_getI (o := 18) (j := 0) (ji := 0) (CN := RX5) (T := TX5) (N := 19) hC iX5_thrown_5 fX5_thrown_54 rfl dX5_thrown_1 rfl rfl (by decide) rfl rfl ?_
  refine m_ireti hC hR (Or.inl rfl) dX5_thrown_4 ⟨Nat.le_of_ble_eq_true rfl, Nat.le_of_ble_eq_true rfl⟩ ?_ ?_
  · first | rfl | omega
  · rfl
set_option maxHeartbeats 4000000 in
set_option maxRecDepth 100000 in
theorem c_X5_in {g : mG} {S : Mem} {v a b : Int} (hv : -2147483648 ≤ v ∧ v < 2147483648) (ha : -2147483648 ≤ a ∧ a < 2147483648) (hb : -2147483648 ≤ b ∧ b < 2147483648) (l : Launch) : Does l yX5_in wsX5_in ({ frames := 0, cells := 0, slots := 0, locals := 0 } : Room) g [.int (z32 v), .int (z32 a), .int (z32 b)] S (PI (bI (decide (a ≤ v ∧ v ≤ b))) S) := by
  refine Does.of (cc := cX5_in) (maxL := 3) (ret := (some .boolean)) (own := RX5) (by decide) rfl rfl (Nat.le_of_ble_eq_true rfl) ?_
  intro C hC hR
  show MW C g 3 (0, 0) 0 [(0, .int (z32 v)), (1, .int (z32 a)), (2, .int (z32 b))] [] S
  refine m_iload_n hC dX5_in_0 0 rfl ?_
  refine m_iload_n hC dX5_in_1 1 rfl ?_
  refine m_icmp_lt (tgt := 14) hC dX5_in_2 (by decide) (by omega) (by omega) (fun c_2 => ?_) (fun c_2 => ?_)
  · refine m_iconst (v := 0) hC dX5_in_14 (by decide) ?_
    refine m_ireti hC hR (Or.inr ⟨rfl, by first | exact Or.inl rfl | exact Or.inr rfl | omega⟩) dX5_in_15 ⟨Nat.le_of_ble_eq_true rfl, Nat.le_of_ble_eq_true rfl⟩ ?_ ?_
    · first | (rw [bI, if_neg (by simp only [decide_eq_true_eq]; omega)]; done) | rw [bI, if_pos (by simp only [decide_eq_true_eq]; omega)]
    · rfl
  · refine m_iload_n hC dX5_in_5 0 rfl ?_
    refine m_iload_n hC dX5_in_6 2 rfl ?_
    refine m_icmp_gt (tgt := 14) hC dX5_in_7 (by decide) (by omega) (by omega) (fun c_7 => ?_) (fun c_7 => ?_)
    · refine m_iconst (v := 0) hC dX5_in_14 (by decide) ?_
      refine m_ireti hC hR (Or.inr ⟨rfl, by first | exact Or.inl rfl | exact Or.inr rfl | omega⟩) dX5_in_15 ⟨Nat.le_of_ble_eq_true rfl, Nat.le_of_ble_eq_true rfl⟩ ?_ ?_
      · first | (rw [bI, if_neg (by simp only [decide_eq_true_eq]; omega)]; done) | rw [bI, if_pos (by simp only [decide_eq_true_eq]; omega)]
      · rfl
    · refine m_iconst (v := 1) hC dX5_in_10 (by decide) ?_
      refine m_goto (tgt := 15) hC dX5_in_11 (by decide) ?_
      refine m_ireti hC hR (Or.inr ⟨rfl, by first | exact Or.inl rfl | exact Or.inr rfl | omega⟩) dX5_in_15 ⟨Nat.le_of_ble_eq_true rfl, Nat.le_of_ble_eq_true rfl⟩ ?_ ?_
      · first | (rw [bI, if_neg (by simp only [decide_eq_true_eq]; omega)]; done) | rw [bI, if_pos (by simp only [decide_eq_true_eq]; omega)]
      · rfl
set_option maxHeartbeats 4000000 in
set_option maxRecDepth 100000 in
theorem c_X5_at {g : mG} {S : Mem} {s o : Int} (l : Launch) : Does l yX5_at wsX5_at ({ frames := 0, cells := 0, slots := 0, locals := 0 } : Room) g [.int (z32 s), .int (z32 o)] S (PI (ix s o) S) := by
  refine Does.of (cc := cX5_at) (maxL := 2) (ret := (some .int)) (own := RX5) (by decide) rfl rfl (Nat.le_of_ble_eq_true rfl) ?_
  intro C hC hR
  show MW C g 2 (0, 0) 0 [(0, .int (z32 s)), (1, .int (z32 o))] [] S
  refine m_bipush (v := 9) hC dX5_at_0 (by decide) ?_
  refine m_iload_n hC dX5_at_2 0 rfl ?_
  refine m_imul hC dX5_at_3 ?_
  refine m_iload_n hC dX5_at_4 1 rfl ?_
  refine m_iadd hC dX5_at_5 ?_
  refine m_ireti hC hR (Or.inl rfl) dX5_at_6 ⟨Nat.le_of_ble_eq_true rfl, Nat.le_of_ble_eq_true rfl⟩ ?_ ?_
  · first | rfl | omega
  · rfl
set_option maxHeartbeats 4000000 in
set_option maxRecDepth 100000 in
theorem c_X5_least {g : mG} {S : Mem} {a b : Int} (ha : -2147483648 ≤ a ∧ a < 2147483648) (hb : -2147483648 ≤ b ∧ b < 2147483648) (l : Launch) : Does l yX5_least wsX5_least ({ frames := 0, cells := 0, slots := 0, locals := 0 } : Room) g [.int (z32 a), .int (z32 b)] S (PI (mn a b) S) := by
  refine Does.of (cc := cX5_least) (maxL := 2) (ret := (some .int)) (own := RX5) (by decide) rfl rfl (Nat.le_of_ble_eq_true rfl) ?_
  intro C hC hR
  show MW C g 2 (0, 0) 0 [(0, .int (z32 a)), (1, .int (z32 b))] [] S
  refine m_iload_n hC dX5_least_0 0 rfl ?_
  refine m_iload_n hC dX5_least_1 1 rfl ?_
  refine m_icmp_ge (tgt := 9) hC dX5_least_2 (by decide) (by omega) (by omega) (fun c_2 => ?_) (fun c_2 => ?_)
  · refine m_iload_n hC dX5_least_9 1 rfl ?_
    refine m_ireti hC hR (Or.inl rfl) dX5_least_10 ⟨Nat.le_of_ble_eq_true rfl, Nat.le_of_ble_eq_true rfl⟩ ?_ ?_
    · unfold mn; split <;> omega
    · rfl
  · refine m_iload_n hC dX5_least_5 0 rfl ?_
    refine m_goto (tgt := 10) hC dX5_least_6 (by decide) ?_
    refine m_ireti hC hR (Or.inl rfl) dX5_least_10 ⟨Nat.le_of_ble_eq_true rfl, Nat.le_of_ble_eq_true rfl⟩ ?_ ?_
    · unfold mn; split <;> omega
    · rfl
theorem iX5_free_5 : ∀ w ∈ wsX50, w ∈ wsX5_free := by decide +kernel
theorem fX5_free_13 : Cond.fieldLink RX5 13 "MutualledgerModel" "owes" "[I" ∈ wsX5_free := by decide +kernel
theorem fX5_free_17 : Cond.fieldLink RX5 17 "MutualledgerModel" "frozen" "[I" ∈ wsX5_free := by decide +kernel
set_option maxHeartbeats 4000000 in
set_option maxRecDepth 100000 in
theorem c_X5_free {g : mG} {S : Mem} {i j : Int} (hi : 0 ≤ i ∧ i < 9) (hj : 0 ≤ j ∧ j < 9) (l : Launch) : Does l yX5_free wsX5_free ({ frames := 1, cells := 0, slots := 0, locals := 21 } : Room) g [.ref (g.2.2 18), .int (z32 i), .int (z32 j)] S (PI (S 20 (ix i j) - S 21 (ix i j)) S) := by
  refine Does.of (cc := cX5_free) (maxL := 3) (ret := (some .int)) (own := RX5) (by decide) rfl rfl (Nat.le_of_ble_eq_true rfl) ?_
  intro C hC hR
  show MW C g 3 (0, 0) 0 [(0, .ref (g.2.2 18)), (1, .int (z32 i)), (2, .int (z32 j))] [] S
  refine m_aload_n hC dX5_free_0 0 rfl ?_
  refine m_getR (o := 18) (j := 3) (a := 20) (CN := RX5) (T := TX5) (N := 19) hC iX5_free_5 fX5_free_13 rfl dX5_free_1 rfl rfl (by decide) rfl ?_
  refine m_iload_n hC dX5_free_4 1 rfl ?_
  refine m_iload_n hC dX5_free_5 2 rfl ?_
  refine m_callSi (n := 2) hC (c_X5_at) gX5_free_X5_at rfl dX5_free_6 (by decide +kernel) ⟨Nat.le_of_ble_eq_true rfl, Nat.le_of_ble_eq_true rfl⟩ rfl (Nat.le_of_ble_eq_true rfl) ⟨Nat.le_of_ble_eq_true rfl, Nat.le_of_ble_eq_true rfl⟩ rfl ?_
  refine m_iaload (o := 20) (n := 81) hC rfl dX5_free_9 (ix_lo (by omega) (by omega)) (ix_hi (by omega) (by omega)) (by decide) ?_
  refine m_aload_n hC dX5_free_10 0 rfl ?_
  refine m_getR (o := 18) (j := 4) (a := 21) (CN := RX5) (T := TX5) (N := 19) hC iX5_free_5 fX5_free_17 rfl dX5_free_11 rfl rfl (by decide) rfl ?_
  refine m_iload_n hC dX5_free_14 1 rfl ?_
  refine m_iload_n hC dX5_free_15 2 rfl ?_
  refine m_callSi (n := 2) hC (c_X5_at) gX5_free_X5_at rfl dX5_free_16 (by decide +kernel) ⟨Nat.le_of_ble_eq_true rfl, Nat.le_of_ble_eq_true rfl⟩ rfl (Nat.le_of_ble_eq_true rfl) ⟨Nat.le_of_ble_eq_true rfl, Nat.le_of_ble_eq_true rfl⟩ rfl ?_
  refine m_iaload (o := 21) (n := 81) hC rfl dX5_free_19 (ix_lo (by omega) (by omega)) (ix_hi (by omega) (by omega)) (by decide) ?_
  refine m_isub hC dX5_free_20 ?_
  refine m_ireti hC hR (Or.inl rfl) dX5_free_21 ⟨Nat.le_of_ble_eq_true rfl, Nat.le_of_ble_eq_true rfl⟩ ?_ ?_
  · first | rfl | omega
  · rfl
theorem iX5_balanceOf_5 : ∀ w ∈ wsX50, w ∈ wsX5_balanceOf := by decide +kernel
theorem fX5_balanceOf_13 : Cond.fieldLink RX5 13 "MutualledgerModel" "owes" "[I" ∈ wsX5_balanceOf := by decide +kernel
set_option maxHeartbeats 4000000 in
set_option maxRecDepth 100000 in
theorem c_X5_balanceOf {g : mG} {S : Mem} {s : Int} (hs : 0 ≤ s ∧ s < 9) (l : Launch) : Does l yX5_balanceOf wsX5_balanceOf ({ frames := 1, cells := 0, slots := 0, locals := 21 } : Room) g [.ref (g.2.2 18), .int (z32 s)] S (PI (bl (S 20) s) S) := by
  refine Does.of (cc := cX5_balanceOf) (maxL := 4) (ret := (some .int)) (own := RX5) (by decide) rfl rfl (Nat.le_of_ble_eq_true rfl) ?_
  intro C hC hR
  show MW C g 4 (0, 0) 0 [(0, .ref (g.2.2 18)), (1, .int (z32 s))] [] S
  refine m_iconst (v := 0) hC dX5_balanceOf_0 (by decide) ?_
  refine m_istore_n hC dX5_balanceOf_1 (fun z9 => [(2, .int (z32 z9)), (0, .ref (g.2.2 18)), (1, .int (z32 s))]) (by decide) (fun _ => rfl) (fun v2_1 hv2_1 => ?_)
  refine m_iconst (v := 0) hC dX5_balanceOf_2 (by decide) ?_
  refine m_istore_n hC dX5_balanceOf_3 (fun z9 => [(3, .int (z32 z9)), (2, .int (z32 v2_1)), (0, .ref (g.2.2 18)), (1, .int (z32 s))]) (by decide) (fun _ => rfl) (fun v3_3 hv3_3 => ?_)
  have L4 : ∀ (n4 : Nat) (i : Nat) (x : Int) (sm : Int), 9 - x < (n4 : Int) → x = (i : Int) → i ≤ 9 → sm = sI (fun k => S 20 (ix k s) - S 20 (ix s k)) i → MW C g 4 (0, 0) 4 [(0, .ref (g.2.2 18)), (1, .int (z32 s)), (2, .int (z32 sm)), (3, .int (z32 x))] [] S := by
    intro n4
    induction n4 with
    | zero => intros; exfalso; omega
    | succ n4 ih4 =>
      intro i x sm hm4 hx hi hsm
      refine m_iload_n hC dX5_balanceOf_4 3 rfl ?_
      refine m_bipush (v := 9) hC dX5_balanceOf_5 (by decide) ?_
      refine m_icmp_ge (tgt := 40) hC dX5_balanceOf_7 (by decide) (by omega) (by omega) (fun c_7 => ?_) (fun c_7 => ?_)
      · refine m_iload_n hC dX5_balanceOf_40 2 rfl ?_
        refine m_ireti hC hR (Or.inl rfl) dX5_balanceOf_41 ⟨Nat.le_of_ble_eq_true rfl, Nat.le_of_ble_eq_true rfl⟩ ?_ ?_
        · rw [hsm, show i = 9 by omega, sI_sub]; rfl
        · rfl
      · refine m_iload_n hC dX5_balanceOf_10 2 rfl ?_
        refine m_aload_n hC dX5_balanceOf_11 0 rfl ?_
        refine m_getR (o := 18) (j := 3) (a := 20) (CN := RX5) (T := TX5) (N := 19) hC iX5_balanceOf_5 fX5_balanceOf_13 rfl dX5_balanceOf_12 rfl rfl (by decide) rfl ?_
        refine m_iload_n hC dX5_balanceOf_15 3 rfl ?_
        refine m_iload_n hC dX5_balanceOf_16 1 rfl ?_
        refine m_callSi (n := 2) hC (c_X5_at) gX5_balanceOf_X5_at rfl dX5_balanceOf_17 (by decide +kernel) ⟨Nat.le_of_ble_eq_true rfl, Nat.le_of_ble_eq_true rfl⟩ rfl (Nat.le_of_ble_eq_true rfl) ⟨Nat.le_of_ble_eq_true rfl, Nat.le_of_ble_eq_true rfl⟩ rfl ?_
        refine m_iaload (o := 20) (n := 81) hC rfl dX5_balanceOf_20 (ix_lo (by omega) (by omega)) (ix_hi (by omega) (by omega)) (by decide) ?_
        refine m_aload_n hC dX5_balanceOf_21 0 rfl ?_
        refine m_getR (o := 18) (j := 3) (a := 20) (CN := RX5) (T := TX5) (N := 19) hC iX5_balanceOf_5 fX5_balanceOf_13 rfl dX5_balanceOf_22 rfl rfl (by decide) rfl ?_
        refine m_iload_n hC dX5_balanceOf_25 1 rfl ?_
        refine m_iload_n hC dX5_balanceOf_26 3 rfl ?_
        refine m_callSi (n := 2) hC (c_X5_at) gX5_balanceOf_X5_at rfl dX5_balanceOf_27 (by decide +kernel) ⟨Nat.le_of_ble_eq_true rfl, Nat.le_of_ble_eq_true rfl⟩ rfl (Nat.le_of_ble_eq_true rfl) ⟨Nat.le_of_ble_eq_true rfl, Nat.le_of_ble_eq_true rfl⟩ rfl ?_
        refine m_iaload (o := 20) (n := 81) hC rfl dX5_balanceOf_30 (ix_lo (by omega) (by omega)) (ix_hi (by omega) (by omega)) (by decide) ?_
        refine m_isub hC dX5_balanceOf_31 ?_
        refine m_iadd hC dX5_balanceOf_32 ?_
        refine m_istore_n hC dX5_balanceOf_33 (fun z9 => [(2, .int (z32 z9)), (0, .ref (g.2.2 18)), (1, .int (z32 s)), (3, .int (z32 x))]) (by decide) (fun _ => rfl) (fun v2_33 hv2_33 => ?_)
        refine m_iinc hC dX5_balanceOf_34 3 rfl (fun z9 => [(3, .int (z32 z9)), (2, .int (z32 v2_33)), (0, .ref (g.2.2 18)), (1, .int (z32 s))]) (by decide) (fun _ => rfl) (fun v3_34 hv3_34 => ?_)
        refine m_goto (tgt := 4) hC dX5_balanceOf_37 (by decide) ?_
        refine m_locals [2, 3, 1, 0] rfl ?_
        exact ih4 (i + 1) v3_34 v2_33 (by omega) (by omega) (by omega) (by rw [sI, ← hsm, ← hx, hv2_33])
  refine m_locals [2, 3, 1, 0] rfl ?_
  exact L4 10 0 v3_3 v2_1 (by omega) (by omega) (by omega) (hv2_1)
theorem iX5_isOf_5 : ∀ w ∈ wsX50, w ∈ wsX5_isOf := by decide +kernel
theorem fX5_isOf_26 : Cond.fieldLink RX5 26 "MutualledgerModel" "buyer" "[I" ∈ wsX5_isOf := by decide +kernel
theorem fX5_isOf_29 : Cond.fieldLink RX5 29 "MutualledgerModel" "seller" "[I" ∈ wsX5_isOf := by decide +kernel
set_option maxHeartbeats 4000000 in
set_option maxRecDepth 100000 in
theorem c_X5_isOf {g : mG} {S : Mem} {t s : Int} (ht : 0 ≤ t ∧ t < 100) (hs : -2147483648 ≤ s ∧ s < 2147483648) (hg : RgR S) (l : Launch) : Does l yX5_isOf wsX5_isOf ({ frames := 0, cells := 0, slots := 0, locals := 0 } : Room) g [.ref (g.2.2 18), .int (z32 t), .int (z32 s)] S (PI (bI (isofR S s t)) S) := by
  refine Does.of (cc := cX5_isOf) (maxL := 3) (ret := (some .boolean)) (own := RX5) (by decide) rfl rfl (Nat.le_of_ble_eq_true rfl) ?_
  intro C hC hR
  show MW C g 3 (0, 0) 0 [(0, .ref (g.2.2 18)), (1, .int (z32 t)), (2, .int (z32 s))] [] S
  obtain ⟨r1, r2, r3, r4, r5, r6, r7⟩ := id hg
  have q7 := r7 t
  refine m_aload_n hC dX5_isOf_0 0 rfl ?_
  refine m_getR (o := 18) (j := 8) (a := 24) (CN := RX5) (T := TX5) (N := 19) hC iX5_isOf_5 fX5_isOf_26 rfl dX5_isOf_1 rfl rfl (by decide) rfl ?_
  refine m_iload_n hC dX5_isOf_4 1 rfl ?_
  refine m_iaload (o := 24) (n := 100) hC rfl dX5_isOf_5 (by omega) (by omega) (by decide) ?_
  refine m_iload_n hC dX5_isOf_6 2 rfl ?_
  refine m_icmp_eq (tgt := 20) hC dX5_isOf_7 (by decide) (by omega) (by omega) (fun c_7 => ?_) (fun c_7 => ?_)
  · refine m_iconst (v := 1) hC dX5_isOf_20 (by decide) ?_
    refine m_goto (tgt := 25) hC dX5_isOf_21 (by decide) ?_
    refine m_ireti hC hR (Or.inr ⟨rfl, by first | exact Or.inl rfl | exact Or.inr rfl | omega⟩) dX5_isOf_25 ⟨Nat.le_of_ble_eq_true rfl, Nat.le_of_ble_eq_true rfl⟩ ?_ ?_
    · simp [bI, isofR, *]
    · rfl
  · refine m_aload_n hC dX5_isOf_10 0 rfl ?_
    refine m_getR (o := 18) (j := 9) (a := 25) (CN := RX5) (T := TX5) (N := 19) hC iX5_isOf_5 fX5_isOf_29 rfl dX5_isOf_11 rfl rfl (by decide) rfl ?_
    refine m_iload_n hC dX5_isOf_14 1 rfl ?_
    refine m_iaload (o := 25) (n := 100) hC rfl dX5_isOf_15 (by omega) (by omega) (by decide) ?_
    refine m_iload_n hC dX5_isOf_16 2 rfl ?_
    refine m_icmp_ne (tgt := 24) hC dX5_isOf_17 (by decide) (by omega) (by omega) (fun c_17 => ?_) (fun c_17 => ?_)
    · refine m_iconst (v := 0) hC dX5_isOf_24 (by decide) ?_
      refine m_ireti hC hR (Or.inr ⟨rfl, by first | exact Or.inl rfl | exact Or.inr rfl | omega⟩) dX5_isOf_25 ⟨Nat.le_of_ble_eq_true rfl, Nat.le_of_ble_eq_true rfl⟩ ?_ ?_
      · simp [bI, isofR, *]
      · rfl
    · refine m_iconst (v := 1) hC dX5_isOf_20 (by decide) ?_
      refine m_goto (tgt := 25) hC dX5_isOf_21 (by decide) ?_
      refine m_ireti hC hR (Or.inr ⟨rfl, by first | exact Or.inl rfl | exact Or.inr rfl | omega⟩) dX5_isOf_25 ⟨Nat.le_of_ble_eq_true rfl, Nat.le_of_ble_eq_true rfl⟩ ?_ ?_
      · simp [bI, isofR, *]
      · rfl
theorem iX5_isShop_5 : ∀ w ∈ wsX50, w ∈ wsX5_isShop := by decide +kernel
theorem fX5_isShop_57 : Cond.fieldLink RX5 57 "MutualledgerModel" "joined" "I" ∈ wsX5_isShop := by decide +kernel
theorem fX5_isShop_7 : Cond.fieldLink RX5 7 "MutualledgerModel" "isIn" "[Z" ∈ wsX5_isShop := by decide +kernel
set_option maxHeartbeats 4000000 in
set_option maxRecDepth 100000 in
theorem c_X5_isShop {g : mG} {S : Mem} {s : Int} (hs : -2147483648 ≤ s ∧ s < 2147483648) (hg : RgR S) (l : Launch) : Does l yX5_isShop wsX5_isShop ({ frames := 1, cells := 0, slots := 0, locals := 22 } : Room) g [.ref (g.2.2 18), .int (z32 s)] S (PI (bI (livR S s)) S) := by
  refine Does.of (cc := cX5_isShop) (maxL := 2) (ret := (some .boolean)) (own := RX5) (by decide) rfl rfl (Nat.le_of_ble_eq_true rfl) ?_
  intro C hC hR
  show MW C g 2 (0, 0) 0 [(0, .ref (g.2.2 18)), (1, .int (z32 s))] [] S
  obtain ⟨r1, r2, r3, r4, r5, r6, r7⟩ := id hg
  have q6 := r6 s
  refine m_iload_n hC dX5_isShop_0 1 rfl ?_
  refine m_iconst (v := 0) hC dX5_isShop_1 (by decide) ?_
  refine m_aload_n hC dX5_isShop_2 0 rfl ?_
  refine m_getI (o := 18) (j := 1) (ji := 1) (CN := RX5) (T := TX5) (N := 19) hC iX5_isShop_5 fX5_isShop_57 rfl dX5_isShop_3 rfl rfl (by decide) rfl rfl ?_
  refine m_iconst (v := 1) hC dX5_isShop_6 (by decide) ?_
  refine m_isub hC dX5_isShop_7 ?_
  refine m_callSi (n := 3) hC (c_X5_in hs (by omega) (by omega)) gX5_isShop_X5_in rfl dX5_isShop_8 (by decide +kernel) ⟨Nat.le_of_ble_eq_true rfl, Nat.le_of_ble_eq_true rfl⟩ rfl (Nat.le_of_ble_eq_true rfl) ⟨Nat.le_of_ble_eq_true rfl, Nat.le_of_ble_eq_true rfl⟩ rfl ?_
  refine m_if_eq (tgt := 27) hC dX5_isShop_11 (by decide) (bI_32 _) (fun c_11 => ?_) (fun c_11 => ?_)
  · have b_11 := bI_0 c_11
    have b1 := of_decide_eq_false b_11
    refine m_iconst (v := 0) hC dX5_isShop_27 (by decide) ?_
    refine m_ireti hC hR (Or.inr ⟨rfl, by first | exact Or.inl rfl | exact Or.inr rfl | omega⟩) dX5_isShop_28 ⟨Nat.le_of_ble_eq_true rfl, Nat.le_of_ble_eq_true rfl⟩ ?_ ?_
    · apply bI_eq; unfold livR; first | (refine Or.inl ⟨rfl, ?_⟩; rw [decide_eq_true (by omega), decide_eq_true (by omega)]; rfl) | (refine Or.inr ⟨rfl, ?_⟩; rw [decide_eq_false (p := 0 ≤ s ∧ s < S 18 1) (by omega)]; rfl) | (refine Or.inr ⟨rfl, ?_⟩; rw [decide_eq_false (p := S 19 s = 1) (by omega)]; exact Bool.and_false _)
    · rfl
  · have b_11 := bI_1 c_11
    have b1 := of_decide_eq_true b_11
    refine m_aload_n hC dX5_isShop_14 0 rfl ?_
    refine m_getR (o := 18) (j := 2) (a := 19) (CN := RX5) (T := TX5) (N := 19) hC iX5_isShop_5 fX5_isShop_7 rfl dX5_isShop_15 rfl rfl (by decide) rfl ?_
    refine m_iload_n hC dX5_isShop_18 1 rfl ?_
    refine m_baload (o := 19) (n := 8) hC rfl dX5_isShop_19 (by omega) (by omega) (by decide) ?_
    refine m_if_eq (tgt := 27) hC dX5_isShop_20 (by decide) (by omega) (fun c_20 => ?_) (fun c_20 => ?_)
    · refine m_iconst (v := 0) hC dX5_isShop_27 (by decide) ?_
      refine m_ireti hC hR (Or.inr ⟨rfl, by first | exact Or.inl rfl | exact Or.inr rfl | omega⟩) dX5_isShop_28 ⟨Nat.le_of_ble_eq_true rfl, Nat.le_of_ble_eq_true rfl⟩ ?_ ?_
      · apply bI_eq; unfold livR; first | (refine Or.inl ⟨rfl, ?_⟩; rw [decide_eq_true (by omega), decide_eq_true (by omega)]; rfl) | (refine Or.inr ⟨rfl, ?_⟩; rw [decide_eq_false (p := 0 ≤ s ∧ s < S 18 1) (by omega)]; rfl) | (refine Or.inr ⟨rfl, ?_⟩; rw [decide_eq_false (p := S 19 s = 1) (by omega)]; exact Bool.and_false _)
      · rfl
    · refine m_iconst (v := 1) hC dX5_isShop_23 (by decide) ?_
      refine m_goto (tgt := 28) hC dX5_isShop_24 (by decide) ?_
      refine m_ireti hC hR (Or.inr ⟨rfl, by first | exact Or.inl rfl | exact Or.inr rfl | omega⟩) dX5_isShop_28 ⟨Nat.le_of_ble_eq_true rfl, Nat.le_of_ble_eq_true rfl⟩ ?_ ?_
      · apply bI_eq; unfold livR; first | (refine Or.inl ⟨rfl, ?_⟩; rw [decide_eq_true (by omega), decide_eq_true (by omega)]; rfl) | (refine Or.inr ⟨rfl, ?_⟩; rw [decide_eq_false (p := 0 ≤ s ∧ s < S 18 1) (by omega)]; rfl) | (refine Or.inr ⟨rfl, ?_⟩; rw [decide_eq_false (p := S 19 s = 1) (by omega)]; exact Bool.and_false _)
      · rfl
theorem iX5_was_5 : ∀ w ∈ wsX50, w ∈ wsX5_was := by decide +kernel
theorem fX5_was_57 : Cond.fieldLink RX5 57 "MutualledgerModel" "joined" "I" ∈ wsX5_was := by decide +kernel
set_option maxHeartbeats 4000000 in
set_option maxRecDepth 100000 in
theorem c_X5_was {g : mG} {S : Mem} {s : Int} (hs : -2147483648 ≤ s ∧ s < 2147483648) (hg : RgR S) (l : Launch) : Does l yX5_was wsX5_was ({ frames := 1, cells := 0, slots := 0, locals := 22 } : Room) g [.ref (g.2.2 18), .int (z32 s)] S (PI (bI (wasR S s)) S) := by
  refine Does.of (cc := cX5_was) (maxL := 2) (ret := (some .boolean)) (own := RX5) (by decide) rfl rfl (Nat.le_of_ble_eq_true rfl) ?_
  intro C hC hR
  show MW C g 2 (0, 0) 0 [(0, .ref (g.2.2 18)), (1, .int (z32 s))] [] S
  obtain ⟨r1, r2, r3, r4, r5, r6, r7⟩ := id hg
  refine m_iload_n hC dX5_was_0 1 rfl ?_
  refine m_iconst (v := 0) hC dX5_was_1 (by decide) ?_
  refine m_aload_n hC dX5_was_2 0 rfl ?_
  refine m_getI (o := 18) (j := 1) (ji := 1) (CN := RX5) (T := TX5) (N := 19) hC iX5_was_5 fX5_was_57 rfl dX5_was_3 rfl rfl (by decide) rfl rfl ?_
  refine m_iconst (v := 1) hC dX5_was_6 (by decide) ?_
  refine m_isub hC dX5_was_7 ?_
  refine m_callSi (n := 3) hC (c_X5_in hs (by omega) (by omega)) gX5_was_X5_in rfl dX5_was_8 (by decide +kernel) ⟨Nat.le_of_ble_eq_true rfl, Nat.le_of_ble_eq_true rfl⟩ rfl (Nat.le_of_ble_eq_true rfl) ⟨Nat.le_of_ble_eq_true rfl, Nat.le_of_ble_eq_true rfl⟩ rfl ?_
  refine m_ireti hC hR (Or.inr ⟨rfl, bI_rng _⟩) dX5_was_11 ⟨Nat.le_of_ble_eq_true rfl, Nat.le_of_ble_eq_true rfl⟩ ?_ ?_
  · unfold wasR; congr 1; exact decide_eq_decide.mpr (by omega)
  · rfl
theorem iX5_isTrade_5 : ∀ w ∈ wsX50, w ∈ wsX5_isTrade := by decide +kernel
theorem fX5_isTrade_68 : Cond.fieldLink RX5 68 "MutualledgerModel" "trades" "I" ∈ wsX5_isTrade := by decide +kernel
set_option maxHeartbeats 4000000 in
set_option maxRecDepth 100000 in
theorem c_X5_isTrade {g : mG} {S : Mem} {s : Int} (hs : -2147483648 ≤ s ∧ s < 2147483648) (hg : RgR S) (l : Launch) : Does l yX5_isTrade wsX5_isTrade ({ frames := 1, cells := 0, slots := 0, locals := 22 } : Room) g [.ref (g.2.2 18), .int (z32 s)] S (PI (bI (trR S s)) S) := by
  refine Does.of (cc := cX5_isTrade) (maxL := 2) (ret := (some .boolean)) (own := RX5) (by decide) rfl rfl (Nat.le_of_ble_eq_true rfl) ?_
  intro C hC hR
  show MW C g 2 (0, 0) 0 [(0, .ref (g.2.2 18)), (1, .int (z32 s))] [] S
  obtain ⟨r1, r2, r3, r4, r5, r6, r7⟩ := id hg
  refine m_iload_n hC dX5_isTrade_0 1 rfl ?_
  refine m_iconst (v := 0) hC dX5_isTrade_1 (by decide) ?_
  refine m_aload_n hC dX5_isTrade_2 0 rfl ?_
  refine m_getI (o := 18) (j := 7) (ji := 7) (CN := RX5) (T := TX5) (N := 19) hC iX5_isTrade_5 fX5_isTrade_68 rfl dX5_isTrade_3 rfl rfl (by decide) rfl rfl ?_
  refine m_iconst (v := 1) hC dX5_isTrade_6 (by decide) ?_
  refine m_isub hC dX5_isTrade_7 ?_
  refine m_callSi (n := 3) hC (c_X5_in hs (by omega) (by omega)) gX5_isTrade_X5_in rfl dX5_isTrade_8 (by decide +kernel) ⟨Nat.le_of_ble_eq_true rfl, Nat.le_of_ble_eq_true rfl⟩ rfl (Nat.le_of_ble_eq_true rfl) ⟨Nat.le_of_ble_eq_true rfl, Nat.le_of_ble_eq_true rfl⟩ rfl ?_
  refine m_ireti hC hR (Or.inr ⟨rfl, bI_rng _⟩) dX5_isTrade_11 ⟨Nat.le_of_ble_eq_true rfl, Nat.le_of_ble_eq_true rfl⟩ ?_ ?_
  · unfold trR; congr 1; exact decide_eq_decide.mpr (by omega)
  · rfl
set_option maxHeartbeats 4000000 in
set_option maxRecDepth 100000 in
theorem c_X5_isBelow {g : mG} {S : Mem} {a b : Int} (h : -2147483648 ≤ a + b ∧ a + b < 2147483648) (l : Launch) : Does l yX5_isBelow wsX5_isBelow ({ frames := 0, cells := 0, slots := 0, locals := 0 } : Room) g [.int (z32 a), .int (z32 b)] S (PI (bI (decide (a + b < 0))) S) := by
  refine Does.of (cc := cX5_isBelow) (maxL := 2) (ret := (some .boolean)) (own := RX5) (by decide) rfl rfl (Nat.le_of_ble_eq_true rfl) ?_
  intro C hC hR
  show MW C g 2 (0, 0) 0 [(0, .int (z32 a)), (1, .int (z32 b))] [] S
  refine m_iload_n hC dX5_isBelow_0 0 rfl ?_
  refine m_iload_n hC dX5_isBelow_1 1 rfl ?_
  refine m_iadd hC dX5_isBelow_2 ?_
  refine m_if_ge (tgt := 10) hC dX5_isBelow_3 (by decide) (by omega) (fun c_3 => ?_) (fun c_3 => ?_)
  · refine m_iconst (v := 0) hC dX5_isBelow_10 (by decide) ?_
    refine m_ireti hC hR (Or.inr ⟨rfl, by first | exact Or.inl rfl | exact Or.inr rfl | omega⟩) dX5_isBelow_11 ⟨Nat.le_of_ble_eq_true rfl, Nat.le_of_ble_eq_true rfl⟩ ?_ ?_
    · first | (rw [bI, if_neg (by simp only [decide_eq_true_eq]; omega)]; done) | rw [bI, if_pos (by simp only [decide_eq_true_eq]; omega)]
    · rfl
  · refine m_iconst (v := 1) hC dX5_isBelow_6 (by decide) ?_
    refine m_goto (tgt := 11) hC dX5_isBelow_7 (by decide) ?_
    refine m_ireti hC hR (Or.inr ⟨rfl, by first | exact Or.inl rfl | exact Or.inr rfl | omega⟩) dX5_isBelow_11 ⟨Nat.le_of_ble_eq_true rfl, Nat.le_of_ble_eq_true rfl⟩ ?_ ?_
    · first | (rw [bI, if_neg (by simp only [decide_eq_true_eq]; omega)]; done) | rw [bI, if_pos (by simp only [decide_eq_true_eq]; omega)]
    · rfl
theorem iX5_limitOf_5 : ∀ w ∈ wsX50, w ∈ wsX5_limitOf := by decide +kernel
theorem fX5_limitOf_68 : Cond.fieldLink RX5 68 "MutualledgerModel" "trades" "I" ∈ wsX5_limitOf := by decide +kernel
theorem fX5_limitOf_20 : Cond.fieldLink RX5 20 "MutualledgerModel" "guaranteed" "[I" ∈ wsX5_limitOf := by decide +kernel
theorem fX5_limitOf_38 : Cond.fieldLink RX5 38 "MutualledgerModel" "state" "[I" ∈ wsX5_limitOf := by decide +kernel
theorem fX5_limitOf_35 : Cond.fieldLink RX5 35 "MutualledgerModel" "day" "[I" ∈ wsX5_limitOf := by decide +kernel
theorem fX5_limitOf_75 : Cond.fieldLink RX5 75 "MutualledgerModel" "today" "I" ∈ wsX5_limitOf := by decide +kernel
theorem fX5_limitOf_32 : Cond.fieldLink RX5 32 "MutualledgerModel" "amount" "[I" ∈ wsX5_limitOf := by decide +kernel
set_option maxHeartbeats 4000000 in
set_option maxRecDepth 100000 in
theorem c_X5_limitOf {g : mG} {S : Mem} {s : Int} (hs : 0 ≤ s ∧ s < 9) (hg : RgR S) (l : Launch) : Does l yX5_limitOf wsX5_limitOf ({ frames := 1, cells := 0, slots := 0, locals := 22 } : Room) g [.ref (g.2.2 18), .int (z32 s)] S (PI (limR S s) S) := by
  refine Does.of (cc := cX5_limitOf) (maxL := 5) (ret := (some .int)) (own := RX5) (by decide) rfl rfl (Nat.le_of_ble_eq_true rfl) ?_
  intro C hC hR
  show MW C g 5 (0, 0) 0 [(0, .ref (g.2.2 18)), (1, .int (z32 s))] [] S
  obtain ⟨r1, r2, r3, r4, r5, r6, r7⟩ := id hg
  have ha := amtR_rng hg s
  refine m_iconst (v := 0) hC dX5_limitOf_0 (by decide) ?_
  refine m_istore_n hC dX5_limitOf_1 (fun z9 => [(2, .int (z32 z9)), (0, .ref (g.2.2 18)), (1, .int (z32 s))]) (by decide) (fun _ => rfl) (fun v2_1 hv2_1 => ?_)
  refine m_iconst (v := 0) hC dX5_limitOf_2 (by decide) ?_
  refine m_istore_n hC dX5_limitOf_3 (fun z9 => [(3, .int (z32 z9)), (2, .int (z32 v2_1)), (0, .ref (g.2.2 18)), (1, .int (z32 s))]) (by decide) (fun _ => rfl) (fun v3_3 hv3_3 => ?_)
  have L4 : ∀ (n4 : Nat) (i : Nat) (x : Int) (sm : Int), S 18 7 - x < (n4 : Int) → x = (i : Int) → (i : Int) ≤ S 18 7 → sm = sI (amtR S s) i → MW C g 5 (0, 0) 4 [(0, .ref (g.2.2 18)), (1, .int (z32 s)), (2, .int (z32 sm)), (3, .int (z32 x))] [] S := by
    intro n4
    induction n4 with
    | zero => intros; exfalso; omega
    | succ n4 ih4 =>
      intro i x sm hm4 hx hi hsm
      have q7 := r7 x
      refine m_iload_n hC dX5_limitOf_4 3 rfl ?_
      refine m_aload_n hC dX5_limitOf_5 0 rfl ?_
      refine m_getI (o := 18) (j := 7) (ji := 7) (CN := RX5) (T := TX5) (N := 19) hC iX5_limitOf_5 fX5_limitOf_68 rfl dX5_limitOf_6 rfl rfl (by decide) rfl rfl ?_
      refine m_icmp_ge (tgt := 66) hC dX5_limitOf_9 (by decide) (by omega) (by omega) (fun c_9 => ?_) (fun c_9 => ?_)
      · refine m_sipush (v := 500) hC dX5_limitOf_66 (by decide) ?_
        refine m_iload_n hC dX5_limitOf_69 2 rfl ?_
        refine m_bipush (v := 10) hC dX5_limitOf_70 (by decide) ?_
        refine m_idiv hC dX5_limitOf_72 (by rw [hsm, show i = (S 18 7).toNat by omega]; omega) (by omega) ?_
        refine m_iadd hC dX5_limitOf_73 ?_
        refine m_istore_n hC dX5_limitOf_74 (fun z9 => [(3, .int (z32 z9)), (0, .ref (g.2.2 18)), (1, .int (z32 s)), (2, .int (z32 sm))]) (by decide) (fun _ => rfl) (fun v3_74 hv3_74 => ?_)
        refine m_iconst (v := 0) hC dX5_limitOf_75 (by decide) ?_
        refine m_istore hC dX5_limitOf_76 (fun z9 => [(4, .int (z32 z9)), (3, .int (z32 v3_74)), (0, .ref (g.2.2 18)), (1, .int (z32 s)), (2, .int (z32 sm))]) (by decide) (fun _ => rfl) (fun v4_76 hv4_76 => ?_)
        have L78 : ∀ (n78 : Nat) (j : Nat) (y : Int) (lm : Int), 8 - y < (n78 : Int) → y = (j : Int) → j ≤ 8 → lm = 500 + (sI (amtR S s) (S 18 7).toNat).tdiv 10 + sI (fun k => S 22 (ix k s) - S 22 (ix s k)) j → MW C g 5 (0, 0) 78 [(0, .ref (g.2.2 18)), (1, .int (z32 s)), (3, .int (z32 lm)), (4, .int (z32 y))] [] S := by
          intro n78
          induction n78 with
          | zero => intros; exfalso; omega
          | succ n78 ih78 =>
            intro j y lm hm78 hy hj hlm
            refine m_iload hC dX5_limitOf_78 3 rfl ?_
            refine m_bipush (v := 8) hC dX5_limitOf_80 (by decide) ?_
            refine m_icmp_ge (tgt := 117) hC dX5_limitOf_82 (by decide) (by omega) (by omega) (fun c_82 => ?_) (fun c_82 => ?_)
            · refine m_iload_n hC dX5_limitOf_117 2 rfl ?_
              refine m_ireti hC hR (Or.inl rfl) dX5_limitOf_118 ⟨Nat.le_of_ble_eq_true rfl, Nat.le_of_ble_eq_true rfl⟩ ?_ ?_
              · rw [hlm, show j = 8 by omega]; rfl
              · rfl
            · refine m_iload_n hC dX5_limitOf_85 2 rfl ?_
              refine m_aload_n hC dX5_limitOf_86 0 rfl ?_
              refine m_getR (o := 18) (j := 5) (a := 22) (CN := RX5) (T := TX5) (N := 19) hC iX5_limitOf_5 fX5_limitOf_20 rfl dX5_limitOf_87 rfl rfl (by decide) rfl ?_
              refine m_iload hC dX5_limitOf_90 3 rfl ?_
              refine m_iload_n hC dX5_limitOf_92 1 rfl ?_
              refine m_callSi (n := 2) hC (c_X5_at) gX5_limitOf_X5_at rfl dX5_limitOf_93 (by decide +kernel) ⟨Nat.le_of_ble_eq_true rfl, Nat.le_of_ble_eq_true rfl⟩ rfl (Nat.le_of_ble_eq_true rfl) ⟨Nat.le_of_ble_eq_true rfl, Nat.le_of_ble_eq_true rfl⟩ rfl ?_
              refine m_iaload (o := 22) (n := 81) hC rfl dX5_limitOf_96 (ix_lo (by omega) (by omega)) (ix_hi (by omega) (by omega)) (by decide) ?_
              refine m_aload_n hC dX5_limitOf_97 0 rfl ?_
              refine m_getR (o := 18) (j := 5) (a := 22) (CN := RX5) (T := TX5) (N := 19) hC iX5_limitOf_5 fX5_limitOf_20 rfl dX5_limitOf_98 rfl rfl (by decide) rfl ?_
              refine m_iload_n hC dX5_limitOf_101 1 rfl ?_
              refine m_iload hC dX5_limitOf_102 3 rfl ?_
              refine m_callSi (n := 2) hC (c_X5_at) gX5_limitOf_X5_at rfl dX5_limitOf_104 (by decide +kernel) ⟨Nat.le_of_ble_eq_true rfl, Nat.le_of_ble_eq_true rfl⟩ rfl (Nat.le_of_ble_eq_true rfl) ⟨Nat.le_of_ble_eq_true rfl, Nat.le_of_ble_eq_true rfl⟩ rfl ?_
              refine m_iaload (o := 22) (n := 81) hC rfl dX5_limitOf_107 (ix_lo (by omega) (by omega)) (ix_hi (by omega) (by omega)) (by decide) ?_
              refine m_isub hC dX5_limitOf_108 ?_
              refine m_iadd hC dX5_limitOf_109 ?_
              refine m_istore_n hC dX5_limitOf_110 (fun z9 => [(3, .int (z32 z9)), (0, .ref (g.2.2 18)), (1, .int (z32 s)), (4, .int (z32 y))]) (by decide) (fun _ => rfl) (fun v3_110 hv3_110 => ?_)
              refine m_iinc hC dX5_limitOf_111 3 rfl (fun z9 => [(4, .int (z32 z9)), (3, .int (z32 v3_110)), (0, .ref (g.2.2 18)), (1, .int (z32 s))]) (by decide) (fun _ => rfl) (fun v4_111 hv4_111 => ?_)
              refine m_goto (tgt := 78) hC dX5_limitOf_114 (by decide) ?_
              refine m_locals [2, 3, 1, 0] rfl ?_
              exact ih78 (j + 1) v4_111 v3_110 (by omega) (by omega) (by omega) (by rw [sI, hv3_110, hlm, ← hy]; omega)
        refine m_locals [2, 3, 1, 0] rfl ?_
        exact L78 9 0 v4_76 v3_74 (by omega) (by omega) (by omega) (by rw [hv3_74, hsm, show i = (S 18 7).toNat by omega, sI, Int.add_zero])
      · refine m_iload_n hC dX5_limitOf_12 2 rfl ?_
        refine m_aload_n hC dX5_limitOf_13 0 rfl ?_
        refine m_iload_n hC dX5_limitOf_14 3 rfl ?_
        refine m_iload_n hC dX5_limitOf_15 1 rfl ?_
        refine m_callVi (n := 2) hC (c_X5_isOf (by omega) (by omega) hg) gX5_limitOf_X5_isOf rfl dX5_limitOf_16 rfl rfl (by decide +kernel) ⟨Nat.le_of_ble_eq_true rfl, Nat.le_of_ble_eq_true rfl⟩ rfl (Nat.le_of_ble_eq_true rfl) ⟨Nat.le_of_ble_eq_true rfl, Nat.le_of_ble_eq_true rfl⟩ rfl ?_
        refine m_if_eq (tgt := 57) hC dX5_limitOf_19 (by decide) (bI_32 _) (fun c_19 => ?_) (fun c_19 => ?_)
        · have b_19 := bI_0 c_19
          refine m_iconst (v := 0) hC dX5_limitOf_57 (by decide) ?_
          refine m_iadd hC dX5_limitOf_58 ?_
          refine m_istore_n hC dX5_limitOf_59 (fun z9 => [(2, .int (z32 z9)), (0, .ref (g.2.2 18)), (1, .int (z32 s)), (3, .int (z32 x))]) (by decide) (fun _ => rfl) (fun v2_59 hv2_59 => ?_)
          refine m_iinc hC dX5_limitOf_60 3 rfl (fun z9 => [(3, .int (z32 z9)), (2, .int (z32 v2_59)), (0, .ref (g.2.2 18)), (1, .int (z32 s))]) (by decide) (fun _ => rfl) (fun v3_60 hv3_60 => ?_)
          refine m_goto (tgt := 4) hC dX5_limitOf_63 (by decide) ?_
          refine m_locals [2, 3, 1, 0] rfl ?_
          exact ih4 (i + 1) v3_60 v2_59 (by omega) (by omega) (by omega) (by first | (exfalso; omega) | (rw [sI, ← hsm, ← hx]; unfold amtR; simp only [b_19, Bool.false_eq_true, false_and, if_false, true_and]; first | omega | (split <;> omega)))
        · have b_19 := bI_1 c_19
          refine m_aload_n hC dX5_limitOf_22 0 rfl ?_
          refine m_getR (o := 18) (j := 12) (a := 28) (CN := RX5) (T := TX5) (N := 19) hC iX5_limitOf_5 fX5_limitOf_38 rfl dX5_limitOf_23 rfl rfl (by decide) rfl ?_
          refine m_iload_n hC dX5_limitOf_26 3 rfl ?_
          refine m_iaload (o := 28) (n := 100) hC rfl dX5_limitOf_27 (by omega) (by omega) (by decide) ?_
          refine m_iconst (v := 2) hC dX5_limitOf_28 (by decide) ?_
          refine m_icmp_eq (tgt := 57) hC dX5_limitOf_29 (by decide) (by omega) (by omega) (fun c_29 => ?_) (fun c_29 => ?_)
          · refine m_iconst (v := 0) hC dX5_limitOf_57 (by decide) ?_
            refine m_iadd hC dX5_limitOf_58 ?_
            refine m_istore_n hC dX5_limitOf_59 (fun z9 => [(2, .int (z32 z9)), (0, .ref (g.2.2 18)), (1, .int (z32 s)), (3, .int (z32 x))]) (by decide) (fun _ => rfl) (fun v2_59 hv2_59 => ?_)
            refine m_iinc hC dX5_limitOf_60 3 rfl (fun z9 => [(3, .int (z32 z9)), (2, .int (z32 v2_59)), (0, .ref (g.2.2 18)), (1, .int (z32 s))]) (by decide) (fun _ => rfl) (fun v3_60 hv3_60 => ?_)
            refine m_goto (tgt := 4) hC dX5_limitOf_63 (by decide) ?_
            refine m_locals [2, 3, 1, 0] rfl ?_
            exact ih4 (i + 1) v3_60 v2_59 (by omega) (by omega) (by omega) (by first | (exfalso; omega) | (rw [sI, ← hsm, ← hx]; unfold amtR; simp only [b_19, Bool.false_eq_true, false_and, if_false, true_and]; first | omega | (split <;> omega)))
          · refine m_aload_n hC dX5_limitOf_32 0 rfl ?_
            refine m_getR (o := 18) (j := 11) (a := 27) (CN := RX5) (T := TX5) (N := 19) hC iX5_limitOf_5 fX5_limitOf_35 rfl dX5_limitOf_33 rfl rfl (by decide) rfl ?_
            refine m_iload_n hC dX5_limitOf_36 3 rfl ?_
            refine m_iaload (o := 27) (n := 100) hC rfl dX5_limitOf_37 (by omega) (by omega) (by decide) ?_
            refine m_aload_n hC dX5_limitOf_38 0 rfl ?_
            refine m_getI (o := 18) (j := 14) (ji := 14) (CN := RX5) (T := TX5) (N := 19) hC iX5_limitOf_5 fX5_limitOf_75 rfl dX5_limitOf_39 rfl rfl (by decide) rfl rfl ?_
            refine m_bipush (v := 9) hC dX5_limitOf_42 (by decide) ?_
            refine m_isub hC dX5_limitOf_44 ?_
            refine m_icmp_lt (tgt := 57) hC dX5_limitOf_45 (by decide) (by omega) (by omega) (fun c_45 => ?_) (fun c_45 => ?_)
            · refine m_iconst (v := 0) hC dX5_limitOf_57 (by decide) ?_
              refine m_iadd hC dX5_limitOf_58 ?_
              refine m_istore_n hC dX5_limitOf_59 (fun z9 => [(2, .int (z32 z9)), (0, .ref (g.2.2 18)), (1, .int (z32 s)), (3, .int (z32 x))]) (by decide) (fun _ => rfl) (fun v2_59 hv2_59 => ?_)
              refine m_iinc hC dX5_limitOf_60 3 rfl (fun z9 => [(3, .int (z32 z9)), (2, .int (z32 v2_59)), (0, .ref (g.2.2 18)), (1, .int (z32 s))]) (by decide) (fun _ => rfl) (fun v3_60 hv3_60 => ?_)
              refine m_goto (tgt := 4) hC dX5_limitOf_63 (by decide) ?_
              refine m_locals [2, 3, 1, 0] rfl ?_
              exact ih4 (i + 1) v3_60 v2_59 (by omega) (by omega) (by omega) (by first | (exfalso; omega) | (rw [sI, ← hsm, ← hx]; unfold amtR; simp only [b_19, Bool.false_eq_true, false_and, if_false, true_and]; first | omega | (split <;> omega)))
            · refine m_aload_n hC dX5_limitOf_48 0 rfl ?_
              refine m_getR (o := 18) (j := 10) (a := 26) (CN := RX5) (T := TX5) (N := 19) hC iX5_limitOf_5 fX5_limitOf_32 rfl dX5_limitOf_49 rfl rfl (by decide) rfl ?_
              refine m_iload_n hC dX5_limitOf_52 3 rfl ?_
              refine m_iaload (o := 26) (n := 100) hC rfl dX5_limitOf_53 (by omega) (by omega) (by decide) ?_
              refine m_goto (tgt := 58) hC dX5_limitOf_54 (by decide) ?_
              refine m_iadd hC dX5_limitOf_58 ?_
              refine m_istore_n hC dX5_limitOf_59 (fun z9 => [(2, .int (z32 z9)), (0, .ref (g.2.2 18)), (1, .int (z32 s)), (3, .int (z32 x))]) (by decide) (fun _ => rfl) (fun v2_59 hv2_59 => ?_)
              refine m_iinc hC dX5_limitOf_60 3 rfl (fun z9 => [(3, .int (z32 z9)), (2, .int (z32 v2_59)), (0, .ref (g.2.2 18)), (1, .int (z32 s))]) (by decide) (fun _ => rfl) (fun v3_60 hv3_60 => ?_)
              refine m_goto (tgt := 4) hC dX5_limitOf_63 (by decide) ?_
              refine m_locals [2, 3, 1, 0] rfl ?_
              exact ih4 (i + 1) v3_60 v2_59 (by omega) (by omega) (by omega) (by first | (exfalso; omega) | (rw [sI, ← hsm, ← hx]; unfold amtR; simp only [b_19, Bool.false_eq_true, false_and, if_false, true_and]; first | omega | (split <;> omega)))
  refine m_locals [2, 3, 1, 0] rfl ?_
  exact L4 101 0 v3_3 v2_1 (by omega) (by omega) (by omega) (hv2_1)
theorem iX5_lowestTo_5 : ∀ w ∈ wsX50, w ∈ wsX5_lowestTo := by decide +kernel
theorem fX5_lowestTo_13 : Cond.fieldLink RX5 13 "MutualledgerModel" "owes" "[I" ∈ wsX5_lowestTo := by decide +kernel
set_option maxHeartbeats 4000000 in
set_option maxRecDepth 100000 in
theorem c_X5_lowestTo {g : mG} {S : Mem} {s : Int} (hs : 0 ≤ s ∧ s < 9) (hok : Ok (S 20)) (l : Launch) : Does l yX5_lowestTo wsX5_lowestTo ({ frames := 1, cells := 0, slots := 0, locals := 21 } : Room) g [.ref (g.2.2 18), .int (z32 s)] S (PI (ldF (S 20) s) S) := by
  refine Does.of (cc := cX5_lowestTo) (maxL := 4) (ret := (some .int)) (own := RX5) (by decide) rfl rfl (Nat.le_of_ble_eq_true rfl) ?_
  intro C hC hR
  show MW C g 4 (0, 0) 0 [(0, .ref (g.2.2 18)), (1, .int (z32 s))] [] S
  refine m_iconst (v := -1) hC dX5_lowestTo_0 (by decide) ?_
  refine m_istore_n hC dX5_lowestTo_1 (fun z9 => [(2, .int (z32 z9)), (0, .ref (g.2.2 18)), (1, .int (z32 s))]) (by decide) (fun _ => rfl) (fun v2_1 hv2_1 => ?_)
  refine m_bipush (v := 7) hC dX5_lowestTo_2 (by decide) ?_
  refine m_istore_n hC dX5_lowestTo_4 (fun z9 => [(3, .int (z32 z9)), (2, .int (z32 v2_1)), (0, .ref (g.2.2 18)), (1, .int (z32 s))]) (by decide) (fun _ => rfl) (fun v3_4 hv3_4 => ?_)
  have L5 : ∀ (n5 : Nat) (i : Nat) (x : Int) (f : Int), x + 1 < (n5 : Int) → x = 7 - (i : Int) → i ≤ 8 → f = dF (fun k => decide (0 < S 20 (ix k s))) 8 i → MW C g 4 (0, 0) 5 [(0, .ref (g.2.2 18)), (1, .int (z32 s)), (2, .int (z32 f)), (3, .int (z32 x))] [] S := by
    intro n5
    induction n5 with
    | zero => intros; exfalso; omega
    | succ n5 ih5 =>
      intro i x f hm5 hx hi hf
      refine m_iload_n hC dX5_lowestTo_5 3 rfl ?_
      refine m_if_lt (tgt := 34) hC dX5_lowestTo_6 (by decide) (by omega) (fun c_6 => ?_) (fun c_6 => ?_)
      · refine m_iload_n hC dX5_lowestTo_34 2 rfl ?_
        refine m_ireti hC hR (Or.inl rfl) dX5_lowestTo_35 ⟨Nat.le_of_ble_eq_true rfl, Nat.le_of_ble_eq_true rfl⟩ ?_ ?_
        · rw [hf, show i = 8 by omega]; rfl
        · rfl
      · refine m_aload_n hC dX5_lowestTo_9 0 rfl ?_
        refine m_getR (o := 18) (j := 3) (a := 20) (CN := RX5) (T := TX5) (N := 19) hC iX5_lowestTo_5 fX5_lowestTo_13 rfl dX5_lowestTo_10 rfl rfl (by decide) rfl ?_
        refine m_iload_n hC dX5_lowestTo_13 3 rfl ?_
        refine m_iload_n hC dX5_lowestTo_14 1 rfl ?_
        refine m_callSi (n := 2) hC (c_X5_at) gX5_lowestTo_X5_at rfl dX5_lowestTo_15 (by decide +kernel) ⟨Nat.le_of_ble_eq_true rfl, Nat.le_of_ble_eq_true rfl⟩ rfl (Nat.le_of_ble_eq_true rfl) ⟨Nat.le_of_ble_eq_true rfl, Nat.le_of_ble_eq_true rfl⟩ rfl ?_
        refine m_iaload (o := 20) (n := 81) hC rfl dX5_lowestTo_18 (ix_lo (by omega) (by omega)) (ix_hi (by omega) (by omega)) (by decide) ?_
        refine m_if_le (tgt := 26) hC dX5_lowestTo_19 (by decide) (by have := hok.ent (i := x) (j := s) (by omega) (by omega); omega) (fun c_19 => ?_) (fun c_19 => ?_)
        · refine m_iload_n hC dX5_lowestTo_26 2 rfl ?_
          refine m_istore_n hC dX5_lowestTo_27 (fun z9 => [(2, .int (z32 z9)), (0, .ref (g.2.2 18)), (1, .int (z32 s)), (3, .int (z32 x))]) (by decide) (fun _ => rfl) (fun v2_27 hv2_27 => ?_)
          refine m_iinc hC dX5_lowestTo_28 3 rfl (fun z9 => [(3, .int (z32 z9)), (2, .int (z32 v2_27)), (0, .ref (g.2.2 18)), (1, .int (z32 s))]) (by decide) (fun _ => rfl) (fun v3_28 hv3_28 => ?_)
          refine m_goto (tgt := 5) hC dX5_lowestTo_31 (by decide) ?_
          refine m_locals [2, 3, 1, 0] rfl ?_
          exact ih5 (i + 1) v3_28 v2_27 (by omega) (by omega) (by omega) (by rw [hv2_27, dF, ← hf, show ((8 : Nat) : Int) - 1 - i = x by omega]; first | rw [if_pos (by simp only [decide_eq_true_eq]; omega)] | rw [if_neg (by simp only [decide_eq_true_eq]; omega)])
        · refine m_iload_n hC dX5_lowestTo_22 3 rfl ?_
          refine m_goto (tgt := 27) hC dX5_lowestTo_23 (by decide) ?_
          refine m_istore_n hC dX5_lowestTo_27 (fun z9 => [(2, .int (z32 z9)), (0, .ref (g.2.2 18)), (1, .int (z32 s)), (3, .int (z32 x))]) (by decide) (fun _ => rfl) (fun v2_27 hv2_27 => ?_)
          refine m_iinc hC dX5_lowestTo_28 3 rfl (fun z9 => [(3, .int (z32 z9)), (2, .int (z32 v2_27)), (0, .ref (g.2.2 18)), (1, .int (z32 s))]) (by decide) (fun _ => rfl) (fun v3_28 hv3_28 => ?_)
          refine m_goto (tgt := 5) hC dX5_lowestTo_31 (by decide) ?_
          refine m_locals [2, 3, 1, 0] rfl ?_
          exact ih5 (i + 1) v3_28 v2_27 (by omega) (by omega) (by omega) (by rw [hv2_27, dF, ← hf, show ((8 : Nat) : Int) - 1 - i = x by omega]; first | rw [if_pos (by simp only [decide_eq_true_eq]; omega)] | rw [if_neg (by simp only [decide_eq_true_eq]; omega)])
  refine m_locals [2, 3, 1, 0] rfl ?_
  exact L5 10 0 v3_4 v2_1 (by omega) (by omega) (by omega) (hv2_1)
theorem iX5_lowestOf_5 : ∀ w ∈ wsX50, w ∈ wsX5_lowestOf := by decide +kernel
theorem fX5_lowestOf_13 : Cond.fieldLink RX5 13 "MutualledgerModel" "owes" "[I" ∈ wsX5_lowestOf := by decide +kernel
set_option maxHeartbeats 4000000 in
set_option maxRecDepth 100000 in
theorem c_X5_lowestOf {g : mG} {S : Mem} {s : Int} (hs : 0 ≤ s ∧ s < 9) (hok : Ok (S 20)) (l : Launch) : Does l yX5_lowestOf wsX5_lowestOf ({ frames := 1, cells := 0, slots := 0, locals := 21 } : Room) g [.ref (g.2.2 18), .int (z32 s)] S (PI (lcF (S 20) s) S) := by
  refine Does.of (cc := cX5_lowestOf) (maxL := 4) (ret := (some .int)) (own := RX5) (by decide) rfl rfl (Nat.le_of_ble_eq_true rfl) ?_
  intro C hC hR
  show MW C g 4 (0, 0) 0 [(0, .ref (g.2.2 18)), (1, .int (z32 s))] [] S
  refine m_iconst (v := -1) hC dX5_lowestOf_0 (by decide) ?_
  refine m_istore_n hC dX5_lowestOf_1 (fun z9 => [(2, .int (z32 z9)), (0, .ref (g.2.2 18)), (1, .int (z32 s))]) (by decide) (fun _ => rfl) (fun v2_1 hv2_1 => ?_)
  refine m_bipush (v := 8) hC dX5_lowestOf_2 (by decide) ?_
  refine m_istore_n hC dX5_lowestOf_4 (fun z9 => [(3, .int (z32 z9)), (2, .int (z32 v2_1)), (0, .ref (g.2.2 18)), (1, .int (z32 s))]) (by decide) (fun _ => rfl) (fun v3_4 hv3_4 => ?_)
  have L5 : ∀ (n5 : Nat) (i : Nat) (x : Int) (f : Int), x + 1 < (n5 : Int) → x = 8 - (i : Int) → i ≤ 9 → f = dF (fun k => decide (0 < S 20 (ix s k))) 9 i → MW C g 4 (0, 0) 5 [(0, .ref (g.2.2 18)), (1, .int (z32 s)), (2, .int (z32 f)), (3, .int (z32 x))] [] S := by
    intro n5
    induction n5 with
    | zero => intros; exfalso; omega
    | succ n5 ih5 =>
      intro i x f hm5 hx hi hf
      refine m_iload_n hC dX5_lowestOf_5 3 rfl ?_
      refine m_if_lt (tgt := 34) hC dX5_lowestOf_6 (by decide) (by omega) (fun c_6 => ?_) (fun c_6 => ?_)
      · refine m_iload_n hC dX5_lowestOf_34 2 rfl ?_
        refine m_ireti hC hR (Or.inl rfl) dX5_lowestOf_35 ⟨Nat.le_of_ble_eq_true rfl, Nat.le_of_ble_eq_true rfl⟩ ?_ ?_
        · rw [hf, show i = 9 by omega]; rfl
        · rfl
      · refine m_aload_n hC dX5_lowestOf_9 0 rfl ?_
        refine m_getR (o := 18) (j := 3) (a := 20) (CN := RX5) (T := TX5) (N := 19) hC iX5_lowestOf_5 fX5_lowestOf_13 rfl dX5_lowestOf_10 rfl rfl (by decide) rfl ?_
        refine m_iload_n hC dX5_lowestOf_13 1 rfl ?_
        refine m_iload_n hC dX5_lowestOf_14 3 rfl ?_
        refine m_callSi (n := 2) hC (c_X5_at) gX5_lowestOf_X5_at rfl dX5_lowestOf_15 (by decide +kernel) ⟨Nat.le_of_ble_eq_true rfl, Nat.le_of_ble_eq_true rfl⟩ rfl (Nat.le_of_ble_eq_true rfl) ⟨Nat.le_of_ble_eq_true rfl, Nat.le_of_ble_eq_true rfl⟩ rfl ?_
        refine m_iaload (o := 20) (n := 81) hC rfl dX5_lowestOf_18 (ix_lo (by omega) (by omega)) (ix_hi (by omega) (by omega)) (by decide) ?_
        refine m_if_le (tgt := 26) hC dX5_lowestOf_19 (by decide) (by have := hok.ent (i := s) (j := x) (by omega) (by omega); omega) (fun c_19 => ?_) (fun c_19 => ?_)
        · refine m_iload_n hC dX5_lowestOf_26 2 rfl ?_
          refine m_istore_n hC dX5_lowestOf_27 (fun z9 => [(2, .int (z32 z9)), (0, .ref (g.2.2 18)), (1, .int (z32 s)), (3, .int (z32 x))]) (by decide) (fun _ => rfl) (fun v2_27 hv2_27 => ?_)
          refine m_iinc hC dX5_lowestOf_28 3 rfl (fun z9 => [(3, .int (z32 z9)), (2, .int (z32 v2_27)), (0, .ref (g.2.2 18)), (1, .int (z32 s))]) (by decide) (fun _ => rfl) (fun v3_28 hv3_28 => ?_)
          refine m_goto (tgt := 5) hC dX5_lowestOf_31 (by decide) ?_
          refine m_locals [2, 3, 1, 0] rfl ?_
          exact ih5 (i + 1) v3_28 v2_27 (by omega) (by omega) (by omega) (by rw [hv2_27, dF, ← hf, show ((9 : Nat) : Int) - 1 - i = x by omega]; first | rw [if_pos (by simp only [decide_eq_true_eq]; omega)] | rw [if_neg (by simp only [decide_eq_true_eq]; omega)])
        · refine m_iload_n hC dX5_lowestOf_22 3 rfl ?_
          refine m_goto (tgt := 27) hC dX5_lowestOf_23 (by decide) ?_
          refine m_istore_n hC dX5_lowestOf_27 (fun z9 => [(2, .int (z32 z9)), (0, .ref (g.2.2 18)), (1, .int (z32 s)), (3, .int (z32 x))]) (by decide) (fun _ => rfl) (fun v2_27 hv2_27 => ?_)
          refine m_iinc hC dX5_lowestOf_28 3 rfl (fun z9 => [(3, .int (z32 z9)), (2, .int (z32 v2_27)), (0, .ref (g.2.2 18)), (1, .int (z32 s))]) (by decide) (fun _ => rfl) (fun v3_28 hv3_28 => ?_)
          refine m_goto (tgt := 5) hC dX5_lowestOf_31 (by decide) ?_
          refine m_locals [2, 3, 1, 0] rfl ?_
          exact ih5 (i + 1) v3_28 v2_27 (by omega) (by omega) (by omega) (by rw [hv2_27, dF, ← hf, show ((9 : Nat) : Int) - 1 - i = x by omega]; first | rw [if_pos (by simp only [decide_eq_true_eq]; omega)] | rw [if_neg (by simp only [decide_eq_true_eq]; omega)])
  refine m_locals [2, 3, 1, 0] rfl ?_
  exact L5 10 0 v3_4 v2_1 (by omega) (by omega) (by omega) (hv2_1)
theorem iX5_takesOver_5 : ∀ w ∈ wsX50, w ∈ wsX5_takesOver := by decide +kernel
theorem fX5_takesOver_13 : Cond.fieldLink RX5 13 "MutualledgerModel" "owes" "[I" ∈ wsX5_takesOver := by decide +kernel
set_option maxHeartbeats 4000000 in
set_option maxRecDepth 100000 in
theorem c_X5_takesOver {g : mG} {S : Mem} {o s c m : Int} (ho : 0 ≤ o ∧ o < 9) (hs : 0 ≤ s ∧ s < 9) (hc : 0 ≤ c ∧ c < 9) (l : Launch) : Does l yX5_takesOver wsX5_takesOver ({ frames := 1, cells := 0, slots := 0, locals := 21 } : Room) g [.ref (g.2.2 18), .int (z32 o), .int (z32 s), .int (z32 c), .int (z32 m)] S (PV (mput S 20 (tkF (S 20) o s c m))) := by
  refine Does.of (cc := cX5_takesOver) (maxL := 5) (ret := none) (own := RX5) (by decide) rfl rfl (Nat.le_of_ble_eq_true rfl) ?_
  intro C hC hR
  show MW C g 5 (0, 0) 0 [(0, .ref (g.2.2 18)), (1, .int (z32 o)), (2, .int (z32 s)), (3, .int (z32 c)), (4, .int (z32 m))] [] S
  refine m_aload_n hC dX5_takesOver_0 0 rfl ?_
  refine m_getR (o := 18) (j := 3) (a := 20) (CN := RX5) (T := TX5) (N := 19) hC iX5_takesOver_5 fX5_takesOver_13 rfl dX5_takesOver_1 rfl rfl (by decide) rfl ?_
  refine m_iload_n hC dX5_takesOver_4 2 rfl ?_
  refine m_iload_n hC dX5_takesOver_5 3 rfl ?_
  refine m_callSi (n := 2) hC (c_X5_at) gX5_takesOver_X5_at rfl dX5_takesOver_6 (by decide +kernel) ⟨Nat.le_of_ble_eq_true rfl, Nat.le_of_ble_eq_true rfl⟩ rfl (Nat.le_of_ble_eq_true rfl) ⟨Nat.le_of_ble_eq_true rfl, Nat.le_of_ble_eq_true rfl⟩ rfl ?_
  refine m_dup2 hC dX5_takesOver_9 rfl rfl ?_
  refine m_iaload (o := 20) (n := 81) hC rfl dX5_takesOver_10 (ix_lo (by omega) (by omega)) (ix_hi (by omega) (by omega)) (by decide) ?_
  refine m_iload hC dX5_takesOver_11 4 rfl ?_
  refine m_isub hC dX5_takesOver_13 ?_
  refine m_iastore (o := 20) (n := 81) hC rfl dX5_takesOver_14 (ix_lo (by omega) (by omega)) (ix_hi (by omega) (by omega)) (by decide) ?_
  refine m_aload_n hC dX5_takesOver_15 0 rfl ?_
  refine m_getR (o := 18) (j := 3) (a := 20) (CN := RX5) (T := TX5) (N := 19) hC iX5_takesOver_5 fX5_takesOver_13 rfl dX5_takesOver_16 rfl rfl (by decide) rfl ?_
  refine m_iload_n hC dX5_takesOver_19 1 rfl ?_
  refine m_iload_n hC dX5_takesOver_20 3 rfl ?_
  refine m_callSi (n := 2) hC (c_X5_at) gX5_takesOver_X5_at rfl dX5_takesOver_21 (by decide +kernel) ⟨Nat.le_of_ble_eq_true rfl, Nat.le_of_ble_eq_true rfl⟩ rfl (Nat.le_of_ble_eq_true rfl) ⟨Nat.le_of_ble_eq_true rfl, Nat.le_of_ble_eq_true rfl⟩ rfl ?_
  refine m_dup2 hC dX5_takesOver_24 rfl rfl ?_
  refine m_iaload (o := 20) (n := 81) hC rfl dX5_takesOver_25 (ix_lo (by omega) (by omega)) (ix_hi (by omega) (by omega)) (by decide) ?_
  refine m_iload_n hC dX5_takesOver_26 1 rfl ?_
  refine m_iload_n hC dX5_takesOver_27 3 rfl ?_
  refine m_icmp_ne (tgt := 35) hC dX5_takesOver_28 (by decide) (by omega) (by omega) (fun c_28 => ?_) (fun c_28 => ?_)
  · refine m_iload hC dX5_takesOver_35 4 rfl ?_
    refine m_iadd hC dX5_takesOver_37 ?_
    refine m_iastore (o := 20) (n := 81) hC rfl dX5_takesOver_38 (ix_lo (by omega) (by omega)) (ix_hi (by omega) (by omega)) (by decide) ?_
    refine m_vretv hC hR dX5_takesOver_39 ⟨Nat.le_of_ble_eq_true rfl, Nat.le_of_ble_eq_true rfl⟩ ?_
    rw [mset_mput, mset_mput, mput_same, mput_mput]; first | (rw [tkF, if_pos (by omega), Int.add_zero, up_self]; rfl) | (rw [tkF, if_neg (by omega)]; rfl)
  · refine m_iconst (v := 0) hC dX5_takesOver_31 (by decide) ?_
    refine m_goto (tgt := 37) hC dX5_takesOver_32 (by decide) ?_
    refine m_iadd hC dX5_takesOver_37 ?_
    refine m_iastore (o := 20) (n := 81) hC rfl dX5_takesOver_38 (ix_lo (by omega) (by omega)) (ix_hi (by omega) (by omega)) (by decide) ?_
    refine m_vretv hC hR dX5_takesOver_39 ⟨Nat.le_of_ble_eq_true rfl, Nat.le_of_ble_eq_true rfl⟩ ?_
    rw [mset_mput, mset_mput, mput_same, mput_mput]; first | (rw [tkF, if_pos (by omega), Int.add_zero, up_self]; rfl) | (rw [tkF, if_neg (by omega)]; rfl)
theorem iX5_passesOn_5 : ∀ w ∈ wsX50, w ∈ wsX5_passesOn := by decide +kernel
theorem fX5_passesOn_13 : Cond.fieldLink RX5 13 "MutualledgerModel" "owes" "[I" ∈ wsX5_passesOn := by decide +kernel
set_option maxHeartbeats 4000000 in
set_option maxRecDepth 100000 in
theorem c_X5_passesOn {g : mG} {S : Mem} {s : Int} (hs : 0 ≤ s ∧ s < 9) (hok : OkD (S 20)) (l : Launch) : Does l yX5_passesOn wsX5_passesOn ({ frames := 2, cells := 0, slots := 0, locals := 45 } : Room) g [.ref (g.2.2 18), .int (z32 s)] S (PVx (fun S' => ∃ n, S' = mput S 20 (psN s (S 20) n) ∧ pstuck s (psN s (S 20) n))) := by
  refine Does.of (cc := cX5_passesOn) (maxL := 5) (ret := none) (own := RX5) (by decide) rfl rfl (Nat.le_of_ble_eq_true rfl) ?_
  intro C hC hR
  show MW C g 5 (0, 0) 0 [(0, .ref (g.2.2 18)), (1, .int (z32 s))] [] S
  have L0 : ∀ (n0 : Nat) (n : Nat) (S1 : Mem), tot (S1 20) < (n0 : Int) → S1 = mput S 20 (psN s (S 20) n) → MW C g 5 (0, 0) 0 [(0, .ref (g.2.2 18)), (1, .int (z32 s))] [] S1 := by
    intro n0
    induction n0 with
    | zero => intro n S1 h0 hS1; exfalso; have h1 := psN_ok hs hok n; have h2 : 0 ≤ tot (psN s (S 20) n) := sI_nn (fun i a b => row_nn h1.1.1 ⟨a, b⟩); rw [hS1, mput_same] at h0; omega
    | succ n0 ih0 =>
      intro n S1 hm0 hS1
      have e20 : S1 20 = psN s (S 20) n := by rw [hS1, mput_same]
      have hok1 : OkD (S1 20) := by rw [e20]; exact psN_ok hs hok n
      have hld := ldF_is (S1 20) s
      have hlc := lcF_is (S1 20) s
      refine m_aload_n hC dX5_passesOn_0 0 rfl ?_
      refine m_iload_n hC dX5_passesOn_1 1 rfl ?_
      refine m_callVi (n := 1) hC (c_X5_lowestTo hs hok1.1) gX5_passesOn_X5_lowestTo rfl dX5_passesOn_2 rfl rfl (by decide +kernel) ⟨Nat.le_of_ble_eq_true rfl, Nat.le_of_ble_eq_true rfl⟩ rfl (Nat.le_of_ble_eq_true rfl) ⟨Nat.le_of_ble_eq_true rfl, Nat.le_of_ble_eq_true rfl⟩ rfl ?_
      refine m_iconst (v := -1) hC dX5_passesOn_5 (by decide) ?_
      refine m_icmp_eq (tgt := 82) hC dX5_passesOn_6 (by decide) (by omega) (by omega) (fun c_6 => ?_) (fun c_6 => ?_)
      · refine m_vretx hC hR dX5_passesOn_82 ⟨Nat.le_of_ble_eq_true rfl, Nat.le_of_ble_eq_true rfl⟩ ?_
        refine ⟨n, hS1, ?_⟩; unfold pstuck; rw [← e20]; first | exact Or.inl c_6 | exact Or.inr c_15
      · refine m_aload_n hC dX5_passesOn_9 0 rfl ?_
        refine m_iload_n hC dX5_passesOn_10 1 rfl ?_
        refine m_callVi (n := 1) hC (c_X5_lowestOf hs hok1.1) gX5_passesOn_X5_lowestOf rfl dX5_passesOn_11 rfl rfl (by decide +kernel) ⟨Nat.le_of_ble_eq_true rfl, Nat.le_of_ble_eq_true rfl⟩ rfl (Nat.le_of_ble_eq_true rfl) ⟨Nat.le_of_ble_eq_true rfl, Nat.le_of_ble_eq_true rfl⟩ rfl ?_
        refine m_iconst (v := -1) hC dX5_passesOn_14 (by decide) ?_
        refine m_icmp_eq (tgt := 82) hC dX5_passesOn_15 (by decide) (by omega) (by omega) (fun c_15 => ?_) (fun c_15 => ?_)
        · refine m_vretx hC hR dX5_passesOn_82 ⟨Nat.le_of_ble_eq_true rfl, Nat.le_of_ble_eq_true rfl⟩ ?_
          refine ⟨n, hS1, ?_⟩; unfold pstuck; rw [← e20]; first | exact Or.inl c_6 | exact Or.inr c_15
        · refine m_aload_n hC dX5_passesOn_18 0 rfl ?_
          refine m_iload_n hC dX5_passesOn_19 1 rfl ?_
          refine m_callVi (n := 1) hC (c_X5_lowestTo hs hok1.1) gX5_passesOn_X5_lowestTo rfl dX5_passesOn_20 rfl rfl (by decide +kernel) ⟨Nat.le_of_ble_eq_true rfl, Nat.le_of_ble_eq_true rfl⟩ rfl (Nat.le_of_ble_eq_true rfl) ⟨Nat.le_of_ble_eq_true rfl, Nat.le_of_ble_eq_true rfl⟩ rfl ?_
          refine m_istore_n hC dX5_passesOn_23 (fun z9 => [(2, .int (z32 z9)), (0, .ref (g.2.2 18)), (1, .int (z32 s))]) (by decide) (fun _ => rfl) (fun v2_23 hv2_23 => ?_)
          refine m_aload_n hC dX5_passesOn_24 1 rfl ?_
          refine m_iload_n hC dX5_passesOn_25 2 rfl ?_
          refine m_callVi (n := 1) hC (c_X5_lowestOf hs hok1.1) gX5_passesOn_X5_lowestOf rfl dX5_passesOn_26 rfl rfl (by decide +kernel) ⟨Nat.le_of_ble_eq_true rfl, Nat.le_of_ble_eq_true rfl⟩ rfl (Nat.le_of_ble_eq_true rfl) ⟨Nat.le_of_ble_eq_true rfl, Nat.le_of_ble_eq_true rfl⟩ rfl ?_
          refine m_istore_n hC dX5_passesOn_29 (fun z9 => [(3, .int (z32 z9)), (2, .int (z32 v2_23)), (0, .ref (g.2.2 18)), (1, .int (z32 s))]) (by decide) (fun _ => rfl) (fun v3_29 hv3_29 => ?_)
          refine m_aload_n hC dX5_passesOn_30 2 rfl ?_
          refine m_getR (o := 18) (j := 3) (a := 20) (CN := RX5) (T := TX5) (N := 19) hC iX5_passesOn_5 fX5_passesOn_13 rfl dX5_passesOn_31 rfl rfl (by decide) rfl ?_
          refine m_iload_n hC dX5_passesOn_34 1 rfl ?_
          refine m_iload_n hC dX5_passesOn_35 3 rfl ?_
          refine m_callSi (n := 2) hC (c_X5_at) gX5_passesOn_X5_at rfl dX5_passesOn_36 (by decide +kernel) ⟨Nat.le_of_ble_eq_true rfl, Nat.le_of_ble_eq_true rfl⟩ rfl (Nat.le_of_ble_eq_true rfl) ⟨Nat.le_of_ble_eq_true rfl, Nat.le_of_ble_eq_true rfl⟩ rfl ?_
          refine m_iaload (o := 20) (n := 81) hC rfl dX5_passesOn_39 (ix_lo (by omega) (by omega)) (ix_hi (by omega) (by omega)) (by decide) ?_
          refine m_aload_n hC dX5_passesOn_40 2 rfl ?_
          refine m_getR (o := 18) (j := 3) (a := 20) (CN := RX5) (T := TX5) (N := 19) hC iX5_passesOn_5 fX5_passesOn_13 rfl dX5_passesOn_41 rfl rfl (by decide) rfl ?_
          refine m_iload_n hC dX5_passesOn_44 3 rfl ?_
          refine m_iload_n hC dX5_passesOn_45 0 rfl ?_
          refine m_callSi (n := 2) hC (c_X5_at) gX5_passesOn_X5_at rfl dX5_passesOn_46 (by decide +kernel) ⟨Nat.le_of_ble_eq_true rfl, Nat.le_of_ble_eq_true rfl⟩ rfl (Nat.le_of_ble_eq_true rfl) ⟨Nat.le_of_ble_eq_true rfl, Nat.le_of_ble_eq_true rfl⟩ rfl ?_
          refine m_iaload (o := 20) (n := 81) hC rfl dX5_passesOn_49 (ix_lo (by omega) (by omega)) (ix_hi (by omega) (by omega)) (by decide) ?_
          have hq1 := hok1.1.ent (i := v2_23) (j := s) (by omega) hs
          have hq2 := hok1.1.ent (i := s) (j := v3_29) hs (by omega)
          refine m_callSi (n := 2) hC (c_X5_least (by omega) (by omega)) gX5_passesOn_X5_least rfl dX5_passesOn_50 (by decide +kernel) ⟨Nat.le_of_ble_eq_true rfl, Nat.le_of_ble_eq_true rfl⟩ rfl (Nat.le_of_ble_eq_true rfl) ⟨Nat.le_of_ble_eq_true rfl, Nat.le_of_ble_eq_true rfl⟩ rfl ?_
          refine m_istore hC dX5_passesOn_53 (fun z9 => [(4, .int (z32 z9)), (3, .int (z32 v3_29)), (2, .int (z32 v2_23)), (0, .ref (g.2.2 18)), (1, .int (z32 s))]) (by decide) (fun _ => rfl) (fun v4_53 hv4_53 => ?_)
          refine m_aload_n hC dX5_passesOn_55 3 rfl ?_
          refine m_getR (o := 18) (j := 3) (a := 20) (CN := RX5) (T := TX5) (N := 19) hC iX5_passesOn_5 fX5_passesOn_13 rfl dX5_passesOn_56 rfl rfl (by decide) rfl ?_
          refine m_iload_n hC dX5_passesOn_59 2 rfl ?_
          refine m_iload_n hC dX5_passesOn_60 4 rfl ?_
          refine m_callSi (n := 2) hC (c_X5_at) gX5_passesOn_X5_at rfl dX5_passesOn_61 (by decide +kernel) ⟨Nat.le_of_ble_eq_true rfl, Nat.le_of_ble_eq_true rfl⟩ rfl (Nat.le_of_ble_eq_true rfl) ⟨Nat.le_of_ble_eq_true rfl, Nat.le_of_ble_eq_true rfl⟩ rfl ?_
          refine m_dup2 hC dX5_passesOn_64 rfl rfl ?_
          refine m_iaload (o := 20) (n := 81) hC rfl dX5_passesOn_65 (ix_lo (by omega) (by omega)) (ix_hi (by omega) (by omega)) (by decide) ?_
          refine m_iload hC dX5_passesOn_66 0 rfl ?_
          refine m_isub hC dX5_passesOn_68 ?_
          refine m_iastore (o := 20) (n := 81) hC rfl dX5_passesOn_69 (ix_lo (by omega) (by omega)) (ix_hi (by omega) (by omega)) (by decide) ?_
          refine m_aload_n hC dX5_passesOn_70 3 rfl ?_
          refine m_iload_n hC dX5_passesOn_71 2 rfl ?_
          refine m_iload_n hC dX5_passesOn_72 4 rfl ?_
          refine m_iload_n hC dX5_passesOn_73 1 rfl ?_
          refine m_iload hC dX5_passesOn_74 0 rfl ?_
          refine m_callVv (n := 4) hC (c_X5_takesOver (by omega) hs (by omega)) gX5_passesOn_X5_takesOver rfl dX5_passesOn_76 rfl rfl (by decide +kernel) ⟨Nat.le_of_ble_eq_true rfl, Nat.le_of_ble_eq_true rfl⟩ rfl (Nat.le_of_ble_eq_true rfl) ⟨Nat.le_of_ble_eq_true rfl, Nat.le_of_ble_eq_true rfl⟩ rfl ?_
          have hst := pst_tot hs hok1 c_6 c_15
          have hN : mput (mset S1 20 (ix v2_23 s) (S1 20 (ix v2_23 s) - v4_53)) 20 (tkF (mset S1 20 (ix v2_23 s) (S1 20 (ix v2_23 s) - v4_53) 20) v2_23 s v3_29 v4_53) = mput S 20 (psN s (S 20) (n + 1)) := by
            rw [mset_mput, mput_mput, mput_same, hv4_53, hv2_23, hv3_29, show psN s (S 20) (n + 1) = pst s (psN s (S 20) n) from rfl, ← e20, pst, if_pos ⟨c_6, c_15⟩, hS1, mput_mput]
            rfl
          rw [hN]
          refine m_goto (tgt := 0) hC dX5_passesOn_79 (by decide) ?_
          refine m_locals [3, 4] rfl ?_
          exact ih0 (n + 1) _ (by rw [mput_same, show psN s (S 20) (n + 1) = pst s (psN s (S 20) n) from rfl, ← e20, pst, if_pos ⟨c_6, c_15⟩]; omega) rfl
  refine m_locals [0, 1] rfl ?_
  exact L0 200001 0 S (by have := hok.1.2; omega) ((mput_self S 20).symm)
theorem iX5_lets_5 : ∀ w ∈ wsX50, w ∈ wsX5_lets := by decide +kernel
theorem fX5_lets_13 : Cond.fieldLink RX5 13 "MutualledgerModel" "owes" "[I" ∈ wsX5_lets := by decide +kernel
theorem fX5_lets_20 : Cond.fieldLink RX5 20 "MutualledgerModel" "guaranteed" "[I" ∈ wsX5_lets := by decide +kernel
set_option maxHeartbeats 4000000 in
set_option maxRecDepth 100000 in
theorem c_X5_lets {g : mG} {S : Mem} {s : Int} (hs : 0 ≤ s ∧ s < 9) (hok : lgOk (S 20, S 22, S 14)) (l : Launch) : Does l yX5_lets wsX5_lets ({ frames := 2, cells := 0, slots := 0, locals := 45 } : Room) g [.ref (g.2.2 18), .int (z32 s)] S (PV (mput (mput S 20 (lgO s (S 20, S 22, S 14) 9).1) 22 (lgO s (S 20, S 22, S 14) 9).2.1)) := by
  refine Does.of (cc := cX5_lets) (maxL := 5) (ret := none) (own := RX5) (by decide) rfl rfl (Nat.le_of_ble_eq_true rfl) ?_
  intro C hC hR
  show MW C g 5 (0, 0) 0 [(0, .ref (g.2.2 18)), (1, .int (z32 s))] [] S
  refine m_iconst (v := 0) hC dX5_lets_0 (by decide) ?_
  refine m_istore_n hC dX5_lets_1 (fun z9 => [(2, .int (z32 z9)), (0, .ref (g.2.2 18)), (1, .int (z32 s))]) (by decide) (fun _ => rfl) (fun v2_1 hv2_1 => ?_)
  have L2 : ∀ (n2 : Nat) (i : Nat) (x : Int) (S1 : Mem), 9 - x < (n2 : Int) → x = (i : Int) → i ≤ 9 → S1 = mput (mput S 20 (lgO s (S 20, S 22, S 14) i).1) 22 (lgO s (S 20, S 22, S 14) i).2.1 → MW C g 5 (0, 0) 2 [(0, .ref (g.2.2 18)), (1, .int (z32 s)), (2, .int (z32 x))] [] S1 := by
    intro n2
    induction n2 with
    | zero => intros; exfalso; omega
    | succ n2 ih2 =>
      intro i x S1 hm2 hx hi hS1
      have hok1 := lgO_ok hs hok hi
      refine m_iload_n hC dX5_lets_2 2 rfl ?_
      refine m_bipush (v := 8) hC dX5_lets_3 (by decide) ?_
      refine m_icmp_gt (tgt := 77) hC dX5_lets_5 (by decide) (by omega) (by omega) (fun c_5 => ?_) (fun c_5 => ?_)
      · refine m_vretv hC hR dX5_lets_77 ⟨Nat.le_of_ble_eq_true rfl, Nat.le_of_ble_eq_true rfl⟩ ?_
        rw [hS1, show i = 9 by omega]
      · refine m_iconst (v := 0) hC dX5_lets_8 (by decide) ?_
        refine m_istore_n hC dX5_lets_9 (fun z9 => [(3, .int (z32 z9)), (0, .ref (g.2.2 18)), (1, .int (z32 s)), (2, .int (z32 x))]) (by decide) (fun _ => rfl) (fun v3_9 hv3_9 => ?_)
        have L10 : ∀ (n10 : Nat) (k : Nat) (y : Int) (S2 : Mem), 8 - y < (n10 : Int) → y = (k : Int) → k ≤ 8 → S2 = mput (mput S 20 (lgI s x (lgO s (S 20, S 22, S 14) i) k).1) 22 (lgI s x (lgO s (S 20, S 22, S 14) i) k).2.1 → MW C g 5 (0, 0) 10 [(0, .ref (g.2.2 18)), (1, .int (z32 s)), (2, .int (z32 x)), (3, .int (z32 y))] [] S2 := by
          intro n10
          induction n10 with
          | zero => intros; exfalso; omega
          | succ n10 ih10 =>
            intro k y S2 hm10 hy hk hS2
            have hok2 := lgI_ok (c := x) hs (by omega) hok1 (show k ≤ 9 by omega)
            have e20 : S2 20 = (lgI s x (lgO s (S 20, S 22, S 14) i) k).1 := by rw [hS2]; rfl
            have e22 : S2 22 = (lgI s x (lgO s (S 20, S 22, S 14) i) k).2.1 := by rw [hS2]; rfl
            refine m_iload_n hC dX5_lets_10 3 rfl ?_
            refine m_bipush (v := 8) hC dX5_lets_11 (by decide) ?_
            refine m_icmp_ge (tgt := 71) hC dX5_lets_13 (by decide) (by omega) (by omega) (fun c_13 => ?_) (fun c_13 => ?_)
            · refine m_iinc hC dX5_lets_71 2 rfl (fun z9 => [(2, .int (z32 z9)), (0, .ref (g.2.2 18)), (1, .int (z32 s)), (3, .int (z32 y))]) (by decide) (fun _ => rfl) (fun v2_71 hv2_71 => ?_)
              refine m_goto (tgt := 2) hC dX5_lets_74 (by decide) ?_
              refine m_locals [1, 2, 0] rfl ?_
              exact ih2 (i + 1) v2_71 _ (by omega) (by omega) (by omega) (by rw [hS2, show k = 8 by omega, hx]; rfl)
            · refine m_aload_n hC dX5_lets_16 0 rfl ?_
              refine m_getR (o := 18) (j := 3) (a := 20) (CN := RX5) (T := TX5) (N := 19) hC iX5_lets_5 fX5_lets_13 rfl dX5_lets_17 rfl rfl (by decide) rfl ?_
              refine m_iload_n hC dX5_lets_20 1 rfl ?_
              refine m_iload_n hC dX5_lets_21 2 rfl ?_
              refine m_callSi (n := 2) hC (c_X5_at) gX5_lets_X5_at rfl dX5_lets_22 (by decide +kernel) ⟨Nat.le_of_ble_eq_true rfl, Nat.le_of_ble_eq_true rfl⟩ rfl (Nat.le_of_ble_eq_true rfl) ⟨Nat.le_of_ble_eq_true rfl, Nat.le_of_ble_eq_true rfl⟩ rfl ?_
              refine m_iaload (o := 20) (n := 81) hC rfl dX5_lets_25 (ix_lo (by omega) (by omega)) (ix_hi (by omega) (by omega)) (by decide) ?_
              refine m_aload_n hC dX5_lets_26 0 rfl ?_
              refine m_getR (o := 18) (j := 5) (a := 22) (CN := RX5) (T := TX5) (N := 19) hC iX5_lets_5 fX5_lets_20 rfl dX5_lets_27 rfl rfl (by decide) rfl ?_
              refine m_iload_n hC dX5_lets_30 3 rfl ?_
              refine m_iload_n hC dX5_lets_31 1 rfl ?_
              refine m_callSi (n := 2) hC (c_X5_at) gX5_lets_X5_at rfl dX5_lets_32 (by decide +kernel) ⟨Nat.le_of_ble_eq_true rfl, Nat.le_of_ble_eq_true rfl⟩ rfl (Nat.le_of_ble_eq_true rfl) ⟨Nat.le_of_ble_eq_true rfl, Nat.le_of_ble_eq_true rfl⟩ rfl ?_
              refine m_iaload (o := 22) (n := 81) hC rfl dX5_lets_35 (ix_lo (by omega) (by omega)) (ix_hi (by omega) (by omega)) (by decide) ?_
              have hq1 := hok2.1.1.ent (i := s) (j := x) hs (by omega)
              have hq2 := hok2.2.1.ent (i := y) (j := s) (by omega) hs
              rw [← e20] at hq1
              rw [← e22] at hq2
              refine m_callSi (n := 2) hC (c_X5_least (by omega) (by omega)) gX5_lets_X5_least rfl dX5_lets_36 (by decide +kernel) ⟨Nat.le_of_ble_eq_true rfl, Nat.le_of_ble_eq_true rfl⟩ rfl (Nat.le_of_ble_eq_true rfl) ⟨Nat.le_of_ble_eq_true rfl, Nat.le_of_ble_eq_true rfl⟩ rfl ?_
              refine m_istore hC dX5_lets_39 (fun z9 => [(4, .int (z32 z9)), (0, .ref (g.2.2 18)), (1, .int (z32 s)), (2, .int (z32 x)), (3, .int (z32 y))]) (by decide) (fun _ => rfl) (fun v4_39 hv4_39 => ?_)
              refine m_aload_n hC dX5_lets_41 1 rfl ?_
              refine m_iload_n hC dX5_lets_42 4 rfl ?_
              refine m_iload_n hC dX5_lets_43 2 rfl ?_
              refine m_iload_n hC dX5_lets_44 3 rfl ?_
              refine m_iload hC dX5_lets_45 0 rfl ?_
              refine m_callVv (n := 4) hC (c_X5_takesOver (by omega) hs (by omega)) gX5_lets_X5_takesOver rfl dX5_lets_47 rfl rfl (by decide +kernel) ⟨Nat.le_of_ble_eq_true rfl, Nat.le_of_ble_eq_true rfl⟩ rfl (Nat.le_of_ble_eq_true rfl) ⟨Nat.le_of_ble_eq_true rfl, Nat.le_of_ble_eq_true rfl⟩ rfl ?_
              refine m_aload_n hC dX5_lets_50 1 rfl ?_
              refine m_getR (o := 18) (j := 5) (a := 22) (CN := RX5) (T := TX5) (N := 19) hC iX5_lets_5 fX5_lets_20 rfl dX5_lets_51 rfl rfl (by decide) rfl ?_
              refine m_iload_n hC dX5_lets_54 4 rfl ?_
              refine m_iload_n hC dX5_lets_55 2 rfl ?_
              refine m_callSi (n := 2) hC (c_X5_at) gX5_lets_X5_at rfl dX5_lets_56 (by decide +kernel) ⟨Nat.le_of_ble_eq_true rfl, Nat.le_of_ble_eq_true rfl⟩ rfl (Nat.le_of_ble_eq_true rfl) ⟨Nat.le_of_ble_eq_true rfl, Nat.le_of_ble_eq_true rfl⟩ rfl ?_
              refine m_dup2 hC dX5_lets_59 rfl rfl ?_
              refine m_iaload (o := 22) (n := 81) hC rfl dX5_lets_60 (ix_lo (by omega) (by omega)) (ix_hi (by omega) (by omega)) (by decide) ?_
              refine m_iload hC dX5_lets_61 0 rfl ?_
              refine m_isub hC dX5_lets_63 ?_
              refine m_iastore (o := 22) (n := 81) hC rfl dX5_lets_64 (ix_lo (by omega) (by omega)) (ix_hi (by omega) (by omega)) (by decide) ?_
              refine m_iinc hC dX5_lets_65 4 rfl (fun z9 => [(3, .int (z32 z9)), (4, .int (z32 v4_39)), (0, .ref (g.2.2 18)), (1, .int (z32 s)), (2, .int (z32 x))]) (by decide) (fun _ => rfl) (fun v3_65 hv3_65 => ?_)
              refine m_goto (tgt := 10) hC dX5_lets_68 (by decide) ?_
              refine m_locals [2, 3, 4, 0] rfl ?_
              exact ih10 (k + 1) v3_65 _ (by omega) (by omega) (by omega) (by rw [show lgI s x (lgO s (S 20, S 22, S 14) i) (k + 1) = lgF s x (k : Int) (lgI s x (lgO s (S 20, S 22, S 14) i) k) from rfl, ← hy, hv4_39, e20, e22]; subst hS2; generalize lgI s x (lgO s (S 20, S 22, S 14) i) k = u; exact lgR_step s x y u)
        refine m_locals [1, 2, 3, 0] rfl ?_
        exact L10 9 0 v3_9 _ (by omega) (by omega) (by omega) (hS1)
  refine m_locals [1, 2, 0] rfl ?_
  exact L2 10 0 v2_1 _ (by omega) (by omega) (by omega) (by show S = mput (mput S 20 (S 20)) 22 (S 22); rw [mput_self, mput_self])
theorem iX5_isLazy_5 : ∀ w ∈ wsX50, w ∈ wsX5_isLazy := by decide +kernel
theorem fX5_isLazy_68 : Cond.fieldLink RX5 68 "MutualledgerModel" "trades" "I" ∈ wsX5_isLazy := by decide +kernel
theorem fX5_isLazy_35 : Cond.fieldLink RX5 35 "MutualledgerModel" "day" "[I" ∈ wsX5_isLazy := by decide +kernel
theorem fX5_isLazy_75 : Cond.fieldLink RX5 75 "MutualledgerModel" "today" "I" ∈ wsX5_isLazy := by decide +kernel
set_option maxHeartbeats 4000000 in
set_option maxRecDepth 100000 in
theorem c_X5_isLazy {g : mG} {S : Mem} {s : Int} (hs : 0 ≤ s ∧ s < 9) (hg : RgR S) (hok : Ok (S 20)) (l : Launch) : Does l yX5_isLazy wsX5_isLazy ({ frames := 2, cells := 0, slots := 0, locals := 44 } : Room) g [.ref (g.2.2 18), .int (z32 s)] S (PI (bI (lazR S s)) S) := by
  refine Does.of (cc := cX5_isLazy) (maxL := 4) (ret := (some .boolean)) (own := RX5) (by decide) rfl rfl (Nat.le_of_ble_eq_true rfl) ?_
  intro C hC hR
  show MW C g 4 (0, 0) 0 [(0, .ref (g.2.2 18)), (1, .int (z32 s))] [] S
  obtain ⟨r1, r2, r3, r4, r5, r6, r7⟩ := id hg
  have hbl := hok.bl hs
  refine m_aload_n hC dX5_isLazy_0 0 rfl ?_
  refine m_iload_n hC dX5_isLazy_1 1 rfl ?_
  refine m_callVi (n := 1) hC (c_X5_balanceOf (by omega)) gX5_isLazy_X5_balanceOf rfl dX5_isLazy_2 rfl rfl (by decide +kernel) ⟨Nat.le_of_ble_eq_true rfl, Nat.le_of_ble_eq_true rfl⟩ rfl (Nat.le_of_ble_eq_true rfl) ⟨Nat.le_of_ble_eq_true rfl, Nat.le_of_ble_eq_true rfl⟩ rfl ?_
  refine m_if_le (tgt := 12) hC dX5_isLazy_5 (by decide) (by omega) (fun c_5 => ?_) (fun c_5 => ?_)
  · refine m_iconst (v := 0) hC dX5_isLazy_12 (by decide) ?_
    refine m_istore_n hC dX5_isLazy_13 (fun z9 => [(2, .int (z32 z9)), (0, .ref (g.2.2 18)), (1, .int (z32 s))]) (by decide) (fun _ => rfl) (fun v2_13 hv2_13 => ?_)
    refine m_iconst (v := 0) hC dX5_isLazy_14 (by decide) ?_
    refine m_istore_n hC dX5_isLazy_15 (fun z9 => [(3, .int (z32 z9)), (2, .int (z32 v2_13)), (0, .ref (g.2.2 18)), (1, .int (z32 s))]) (by decide) (fun _ => rfl) (fun v3_15 hv3_15 => ?_)
    have L16 : ∀ (n16 : Nat) (i : Nat) (x : Int) (v : Int), S 18 7 - x < (n16 : Int) → x = (i : Int) → (i : Int) ≤ S 18 7 → v = bI (decide (0 < bl (S 20) s) && !anyI (fun t => isofR S s t && decide (S 18 14 - 4 ≤ S 27 t)) i) → MW C g 4 (0, 0) 16 [(0, .ref (g.2.2 18)), (1, .int (z32 s)), (2, .int (z32 v)), (3, .int (z32 x))] [] S := by
      intro n16
      induction n16 with
      | zero => intros; exfalso; omega
      | succ n16 ih16 =>
        intro i x v hm16 hx hi hv
        have q7 := r7 x
        refine m_iload_n hC dX5_isLazy_16 3 rfl ?_
        refine m_aload_n hC dX5_isLazy_17 0 rfl ?_
        refine m_getI (o := 18) (j := 7) (ji := 7) (CN := RX5) (T := TX5) (N := 19) hC iX5_isLazy_5 fX5_isLazy_68 rfl dX5_isLazy_18 rfl rfl (by decide) rfl rfl ?_
        refine m_icmp_ge (tgt := 64) hC dX5_isLazy_21 (by decide) (by omega) (by omega) (fun c_21 => ?_) (fun c_21 => ?_)
        · refine m_iload_n hC dX5_isLazy_64 2 rfl ?_
          refine m_ireti hC hR (Or.inr ⟨rfl, by rw [hv]; exact bI_rng _⟩) dX5_isLazy_65 ⟨Nat.le_of_ble_eq_true rfl, Nat.le_of_ble_eq_true rfl⟩ ?_ ?_
          · rw [hv, show i = (S 18 7).toNat by omega]; rfl
          · rfl
        · refine m_iload_n hC dX5_isLazy_24 2 rfl ?_
          refine m_if_eq (tgt := 56) hC dX5_isLazy_25 (by decide) (by rw [hv]; exact bI_32 _) (fun c_25 => ?_) (fun c_25 => ?_)
          · have bv := bI_0 (hv.symm.trans c_25)
            refine m_iconst (v := 0) hC dX5_isLazy_56 (by decide) ?_
            refine m_istore_n hC dX5_isLazy_57 (fun z9 => [(2, .int (z32 z9)), (0, .ref (g.2.2 18)), (1, .int (z32 s)), (3, .int (z32 x))]) (by decide) (fun _ => rfl) (fun v2_57 hv2_57 => ?_)
            refine m_iinc hC dX5_isLazy_58 3 rfl (fun z9 => [(3, .int (z32 z9)), (2, .int (z32 v2_57)), (0, .ref (g.2.2 18)), (1, .int (z32 s))]) (by decide) (fun _ => rfl) (fun v3_58 hv3_58 => ?_)
            refine m_goto (tgt := 16) hC dX5_isLazy_61 (by decide) ?_
            refine m_locals [2, 3, 1, 0] rfl ?_
            exact ih16 (i + 1) v3_58 v2_57 (by omega) (by omega) (by omega) (by rw [hv2_57]; apply bI_eq; rw [anyI, ← hx]; first | exact Or.inl ⟨rfl, by rw [Bool.not_or, ← Bool.and_assoc, bv, b_34]; simp; omega⟩ | exact Or.inl ⟨rfl, by rw [Bool.not_or, ← Bool.and_assoc, bv, b_34]; rfl⟩ | exact Or.inr ⟨rfl, by rw [Bool.not_or, ← Bool.and_assoc, bv]; rfl⟩ | exact Or.inr ⟨rfl, by rw [Bool.not_or, ← Bool.and_assoc, bv, b_34]; simp; omega⟩)
          · have bv := bI_1 (fun z => c_25 (hv.trans z))
            refine m_aload_n hC dX5_isLazy_28 0 rfl ?_
            refine m_iload_n hC dX5_isLazy_29 3 rfl ?_
            refine m_iload_n hC dX5_isLazy_30 1 rfl ?_
            refine m_callVi (n := 2) hC (c_X5_isOf (by omega) (by omega) hg) gX5_isLazy_X5_isOf rfl dX5_isLazy_31 rfl rfl (by decide +kernel) ⟨Nat.le_of_ble_eq_true rfl, Nat.le_of_ble_eq_true rfl⟩ rfl (Nat.le_of_ble_eq_true rfl) ⟨Nat.le_of_ble_eq_true rfl, Nat.le_of_ble_eq_true rfl⟩ rfl ?_
            refine m_if_eq (tgt := 52) hC dX5_isLazy_34 (by decide) (bI_32 _) (fun c_34 => ?_) (fun c_34 => ?_)
            · have b_34 := bI_0 c_34
              refine m_iconst (v := 1) hC dX5_isLazy_52 (by decide) ?_
              refine m_goto (tgt := 57) hC dX5_isLazy_53 (by decide) ?_
              refine m_istore_n hC dX5_isLazy_57 (fun z9 => [(2, .int (z32 z9)), (0, .ref (g.2.2 18)), (1, .int (z32 s)), (3, .int (z32 x))]) (by decide) (fun _ => rfl) (fun v2_57 hv2_57 => ?_)
              refine m_iinc hC dX5_isLazy_58 3 rfl (fun z9 => [(3, .int (z32 z9)), (2, .int (z32 v2_57)), (0, .ref (g.2.2 18)), (1, .int (z32 s))]) (by decide) (fun _ => rfl) (fun v3_58 hv3_58 => ?_)
              refine m_goto (tgt := 16) hC dX5_isLazy_61 (by decide) ?_
              refine m_locals [2, 3, 1, 0] rfl ?_
              exact ih16 (i + 1) v3_58 v2_57 (by omega) (by omega) (by omega) (by rw [hv2_57]; apply bI_eq; rw [anyI, ← hx]; first | exact Or.inl ⟨rfl, by rw [Bool.not_or, ← Bool.and_assoc, bv, b_34]; simp; omega⟩ | exact Or.inl ⟨rfl, by rw [Bool.not_or, ← Bool.and_assoc, bv, b_34]; rfl⟩ | exact Or.inr ⟨rfl, by rw [Bool.not_or, ← Bool.and_assoc, bv]; rfl⟩ | exact Or.inr ⟨rfl, by rw [Bool.not_or, ← Bool.and_assoc, bv, b_34]; simp; omega⟩)
            · have b_34 := bI_1 c_34
              refine m_aload_n hC dX5_isLazy_37 0 rfl ?_
              refine m_getR (o := 18) (j := 11) (a := 27) (CN := RX5) (T := TX5) (N := 19) hC iX5_isLazy_5 fX5_isLazy_35 rfl dX5_isLazy_38 rfl rfl (by decide) rfl ?_
              refine m_iload_n hC dX5_isLazy_41 3 rfl ?_
              refine m_iaload (o := 27) (n := 100) hC rfl dX5_isLazy_42 (by omega) (by omega) (by decide) ?_
              refine m_aload_n hC dX5_isLazy_43 0 rfl ?_
              refine m_getI (o := 18) (j := 14) (ji := 14) (CN := RX5) (T := TX5) (N := 19) hC iX5_isLazy_5 fX5_isLazy_75 rfl dX5_isLazy_44 rfl rfl (by decide) rfl rfl ?_
              refine m_iconst (v := 4) hC dX5_isLazy_47 (by decide) ?_
              refine m_isub hC dX5_isLazy_48 ?_
              refine m_icmp_ge (tgt := 56) hC dX5_isLazy_49 (by decide) (by omega) (by omega) (fun c_49 => ?_) (fun c_49 => ?_)
              · refine m_iconst (v := 0) hC dX5_isLazy_56 (by decide) ?_
                refine m_istore_n hC dX5_isLazy_57 (fun z9 => [(2, .int (z32 z9)), (0, .ref (g.2.2 18)), (1, .int (z32 s)), (3, .int (z32 x))]) (by decide) (fun _ => rfl) (fun v2_57 hv2_57 => ?_)
                refine m_iinc hC dX5_isLazy_58 3 rfl (fun z9 => [(3, .int (z32 z9)), (2, .int (z32 v2_57)), (0, .ref (g.2.2 18)), (1, .int (z32 s))]) (by decide) (fun _ => rfl) (fun v3_58 hv3_58 => ?_)
                refine m_goto (tgt := 16) hC dX5_isLazy_61 (by decide) ?_
                refine m_locals [2, 3, 1, 0] rfl ?_
                exact ih16 (i + 1) v3_58 v2_57 (by omega) (by omega) (by omega) (by rw [hv2_57]; apply bI_eq; rw [anyI, ← hx]; first | exact Or.inl ⟨rfl, by rw [Bool.not_or, ← Bool.and_assoc, bv, b_34]; simp; omega⟩ | exact Or.inl ⟨rfl, by rw [Bool.not_or, ← Bool.and_assoc, bv, b_34]; rfl⟩ | exact Or.inr ⟨rfl, by rw [Bool.not_or, ← Bool.and_assoc, bv]; rfl⟩ | exact Or.inr ⟨rfl, by rw [Bool.not_or, ← Bool.and_assoc, bv, b_34]; simp; omega⟩)
              · refine m_iconst (v := 1) hC dX5_isLazy_52 (by decide) ?_
                refine m_goto (tgt := 57) hC dX5_isLazy_53 (by decide) ?_
                refine m_istore_n hC dX5_isLazy_57 (fun z9 => [(2, .int (z32 z9)), (0, .ref (g.2.2 18)), (1, .int (z32 s)), (3, .int (z32 x))]) (by decide) (fun _ => rfl) (fun v2_57 hv2_57 => ?_)
                refine m_iinc hC dX5_isLazy_58 3 rfl (fun z9 => [(3, .int (z32 z9)), (2, .int (z32 v2_57)), (0, .ref (g.2.2 18)), (1, .int (z32 s))]) (by decide) (fun _ => rfl) (fun v3_58 hv3_58 => ?_)
                refine m_goto (tgt := 16) hC dX5_isLazy_61 (by decide) ?_
                refine m_locals [2, 3, 1, 0] rfl ?_
                exact ih16 (i + 1) v3_58 v2_57 (by omega) (by omega) (by omega) (by rw [hv2_57]; apply bI_eq; rw [anyI, ← hx]; first | exact Or.inl ⟨rfl, by rw [Bool.not_or, ← Bool.and_assoc, bv, b_34]; simp; omega⟩ | exact Or.inl ⟨rfl, by rw [Bool.not_or, ← Bool.and_assoc, bv, b_34]; rfl⟩ | exact Or.inr ⟨rfl, by rw [Bool.not_or, ← Bool.and_assoc, bv]; rfl⟩ | exact Or.inr ⟨rfl, by rw [Bool.not_or, ← Bool.and_assoc, bv, b_34]; simp; omega⟩)
    refine m_locals [2, 3, 1, 0] rfl ?_
    exact L16 101 0 v3_15 v2_13 (by omega) (by omega) (by omega) (by rw [hv2_13]; apply bI_eq; first | (refine Or.inl ⟨rfl, ?_⟩; rw [decide_eq_true (by omega)]; rfl) | (refine Or.inr ⟨rfl, ?_⟩; rw [decide_eq_false (by omega)]; rfl))
  · refine m_iconst (v := 1) hC dX5_isLazy_8 (by decide) ?_
    refine m_goto (tgt := 13) hC dX5_isLazy_9 (by decide) ?_
    refine m_istore_n hC dX5_isLazy_13 (fun z9 => [(2, .int (z32 z9)), (0, .ref (g.2.2 18)), (1, .int (z32 s))]) (by decide) (fun _ => rfl) (fun v2_13 hv2_13 => ?_)
    refine m_iconst (v := 0) hC dX5_isLazy_14 (by decide) ?_
    refine m_istore_n hC dX5_isLazy_15 (fun z9 => [(3, .int (z32 z9)), (2, .int (z32 v2_13)), (0, .ref (g.2.2 18)), (1, .int (z32 s))]) (by decide) (fun _ => rfl) (fun v3_15 hv3_15 => ?_)
    have L16 : ∀ (n16 : Nat) (i : Nat) (x : Int) (v : Int), S 18 7 - x < (n16 : Int) → x = (i : Int) → (i : Int) ≤ S 18 7 → v = bI (decide (0 < bl (S 20) s) && !anyI (fun t => isofR S s t && decide (S 18 14 - 4 ≤ S 27 t)) i) → MW C g 4 (0, 0) 16 [(0, .ref (g.2.2 18)), (1, .int (z32 s)), (2, .int (z32 v)), (3, .int (z32 x))] [] S := by
      intro n16
      induction n16 with
      | zero => intros; exfalso; omega
      | succ n16 ih16 =>
        intro i x v hm16 hx hi hv
        have q7 := r7 x
        refine m_iload_n hC dX5_isLazy_16 3 rfl ?_
        refine m_aload_n hC dX5_isLazy_17 0 rfl ?_
        refine m_getI (o := 18) (j := 7) (ji := 7) (CN := RX5) (T := TX5) (N := 19) hC iX5_isLazy_5 fX5_isLazy_68 rfl dX5_isLazy_18 rfl rfl (by decide) rfl rfl ?_
        refine m_icmp_ge (tgt := 64) hC dX5_isLazy_21 (by decide) (by omega) (by omega) (fun c_21 => ?_) (fun c_21 => ?_)
        · refine m_iload_n hC dX5_isLazy_64 2 rfl ?_
          refine m_ireti hC hR (Or.inr ⟨rfl, by rw [hv]; exact bI_rng _⟩) dX5_isLazy_65 ⟨Nat.le_of_ble_eq_true rfl, Nat.le_of_ble_eq_true rfl⟩ ?_ ?_
          · rw [hv, show i = (S 18 7).toNat by omega]; rfl
          · rfl
        · refine m_iload_n hC dX5_isLazy_24 2 rfl ?_
          refine m_if_eq (tgt := 56) hC dX5_isLazy_25 (by decide) (by rw [hv]; exact bI_32 _) (fun c_25 => ?_) (fun c_25 => ?_)
          · have bv := bI_0 (hv.symm.trans c_25)
            refine m_iconst (v := 0) hC dX5_isLazy_56 (by decide) ?_
            refine m_istore_n hC dX5_isLazy_57 (fun z9 => [(2, .int (z32 z9)), (0, .ref (g.2.2 18)), (1, .int (z32 s)), (3, .int (z32 x))]) (by decide) (fun _ => rfl) (fun v2_57 hv2_57 => ?_)
            refine m_iinc hC dX5_isLazy_58 3 rfl (fun z9 => [(3, .int (z32 z9)), (2, .int (z32 v2_57)), (0, .ref (g.2.2 18)), (1, .int (z32 s))]) (by decide) (fun _ => rfl) (fun v3_58 hv3_58 => ?_)
            refine m_goto (tgt := 16) hC dX5_isLazy_61 (by decide) ?_
            refine m_locals [2, 3, 1, 0] rfl ?_
            exact ih16 (i + 1) v3_58 v2_57 (by omega) (by omega) (by omega) (by rw [hv2_57]; apply bI_eq; rw [anyI, ← hx]; first | exact Or.inl ⟨rfl, by rw [Bool.not_or, ← Bool.and_assoc, bv, b_34]; simp; omega⟩ | exact Or.inl ⟨rfl, by rw [Bool.not_or, ← Bool.and_assoc, bv, b_34]; rfl⟩ | exact Or.inr ⟨rfl, by rw [Bool.not_or, ← Bool.and_assoc, bv]; rfl⟩ | exact Or.inr ⟨rfl, by rw [Bool.not_or, ← Bool.and_assoc, bv, b_34]; simp; omega⟩)
          · have bv := bI_1 (fun z => c_25 (hv.trans z))
            refine m_aload_n hC dX5_isLazy_28 0 rfl ?_
            refine m_iload_n hC dX5_isLazy_29 3 rfl ?_
            refine m_iload_n hC dX5_isLazy_30 1 rfl ?_
            refine m_callVi (n := 2) hC (c_X5_isOf (by omega) (by omega) hg) gX5_isLazy_X5_isOf rfl dX5_isLazy_31 rfl rfl (by decide +kernel) ⟨Nat.le_of_ble_eq_true rfl, Nat.le_of_ble_eq_true rfl⟩ rfl (Nat.le_of_ble_eq_true rfl) ⟨Nat.le_of_ble_eq_true rfl, Nat.le_of_ble_eq_true rfl⟩ rfl ?_
            refine m_if_eq (tgt := 52) hC dX5_isLazy_34 (by decide) (bI_32 _) (fun c_34 => ?_) (fun c_34 => ?_)
            · have b_34 := bI_0 c_34
              refine m_iconst (v := 1) hC dX5_isLazy_52 (by decide) ?_
              refine m_goto (tgt := 57) hC dX5_isLazy_53 (by decide) ?_
              refine m_istore_n hC dX5_isLazy_57 (fun z9 => [(2, .int (z32 z9)), (0, .ref (g.2.2 18)), (1, .int (z32 s)), (3, .int (z32 x))]) (by decide) (fun _ => rfl) (fun v2_57 hv2_57 => ?_)
              refine m_iinc hC dX5_isLazy_58 3 rfl (fun z9 => [(3, .int (z32 z9)), (2, .int (z32 v2_57)), (0, .ref (g.2.2 18)), (1, .int (z32 s))]) (by decide) (fun _ => rfl) (fun v3_58 hv3_58 => ?_)
              refine m_goto (tgt := 16) hC dX5_isLazy_61 (by decide) ?_
              refine m_locals [2, 3, 1, 0] rfl ?_
              exact ih16 (i + 1) v3_58 v2_57 (by omega) (by omega) (by omega) (by rw [hv2_57]; apply bI_eq; rw [anyI, ← hx]; first | exact Or.inl ⟨rfl, by rw [Bool.not_or, ← Bool.and_assoc, bv, b_34]; simp; omega⟩ | exact Or.inl ⟨rfl, by rw [Bool.not_or, ← Bool.and_assoc, bv, b_34]; rfl⟩ | exact Or.inr ⟨rfl, by rw [Bool.not_or, ← Bool.and_assoc, bv]; rfl⟩ | exact Or.inr ⟨rfl, by rw [Bool.not_or, ← Bool.and_assoc, bv, b_34]; simp; omega⟩)
            · have b_34 := bI_1 c_34
              refine m_aload_n hC dX5_isLazy_37 0 rfl ?_
              refine m_getR (o := 18) (j := 11) (a := 27) (CN := RX5) (T := TX5) (N := 19) hC iX5_isLazy_5 fX5_isLazy_35 rfl dX5_isLazy_38 rfl rfl (by decide) rfl ?_
              refine m_iload_n hC dX5_isLazy_41 3 rfl ?_
              refine m_iaload (o := 27) (n := 100) hC rfl dX5_isLazy_42 (by omega) (by omega) (by decide) ?_
              refine m_aload_n hC dX5_isLazy_43 0 rfl ?_
              refine m_getI (o := 18) (j := 14) (ji := 14) (CN := RX5) (T := TX5) (N := 19) hC iX5_isLazy_5 fX5_isLazy_75 rfl dX5_isLazy_44 rfl rfl (by decide) rfl rfl ?_
              refine m_iconst (v := 4) hC dX5_isLazy_47 (by decide) ?_
              refine m_isub hC dX5_isLazy_48 ?_
              refine m_icmp_ge (tgt := 56) hC dX5_isLazy_49 (by decide) (by omega) (by omega) (fun c_49 => ?_) (fun c_49 => ?_)
              · refine m_iconst (v := 0) hC dX5_isLazy_56 (by decide) ?_
                refine m_istore_n hC dX5_isLazy_57 (fun z9 => [(2, .int (z32 z9)), (0, .ref (g.2.2 18)), (1, .int (z32 s)), (3, .int (z32 x))]) (by decide) (fun _ => rfl) (fun v2_57 hv2_57 => ?_)
                refine m_iinc hC dX5_isLazy_58 3 rfl (fun z9 => [(3, .int (z32 z9)), (2, .int (z32 v2_57)), (0, .ref (g.2.2 18)), (1, .int (z32 s))]) (by decide) (fun _ => rfl) (fun v3_58 hv3_58 => ?_)
                refine m_goto (tgt := 16) hC dX5_isLazy_61 (by decide) ?_
                refine m_locals [2, 3, 1, 0] rfl ?_
                exact ih16 (i + 1) v3_58 v2_57 (by omega) (by omega) (by omega) (by rw [hv2_57]; apply bI_eq; rw [anyI, ← hx]; first | exact Or.inl ⟨rfl, by rw [Bool.not_or, ← Bool.and_assoc, bv, b_34]; simp; omega⟩ | exact Or.inl ⟨rfl, by rw [Bool.not_or, ← Bool.and_assoc, bv, b_34]; rfl⟩ | exact Or.inr ⟨rfl, by rw [Bool.not_or, ← Bool.and_assoc, bv]; rfl⟩ | exact Or.inr ⟨rfl, by rw [Bool.not_or, ← Bool.and_assoc, bv, b_34]; simp; omega⟩)
              · refine m_iconst (v := 1) hC dX5_isLazy_52 (by decide) ?_
                refine m_goto (tgt := 57) hC dX5_isLazy_53 (by decide) ?_
                refine m_istore_n hC dX5_isLazy_57 (fun z9 => [(2, .int (z32 z9)), (0, .ref (g.2.2 18)), (1, .int (z32 s)), (3, .int (z32 x))]) (by decide) (fun _ => rfl) (fun v2_57 hv2_57 => ?_)
                refine m_iinc hC dX5_isLazy_58 3 rfl (fun z9 => [(3, .int (z32 z9)), (2, .int (z32 v2_57)), (0, .ref (g.2.2 18)), (1, .int (z32 s))]) (by decide) (fun _ => rfl) (fun v3_58 hv3_58 => ?_)
                refine m_goto (tgt := 16) hC dX5_isLazy_61 (by decide) ?_
                refine m_locals [2, 3, 1, 0] rfl ?_
                exact ih16 (i + 1) v3_58 v2_57 (by omega) (by omega) (by omega) (by rw [hv2_57]; apply bI_eq; rw [anyI, ← hx]; first | exact Or.inl ⟨rfl, by rw [Bool.not_or, ← Bool.and_assoc, bv, b_34]; simp; omega⟩ | exact Or.inl ⟨rfl, by rw [Bool.not_or, ← Bool.and_assoc, bv, b_34]; rfl⟩ | exact Or.inr ⟨rfl, by rw [Bool.not_or, ← Bool.and_assoc, bv]; rfl⟩ | exact Or.inr ⟨rfl, by rw [Bool.not_or, ← Bool.and_assoc, bv, b_34]; simp; omega⟩)
    refine m_locals [2, 3, 1, 0] rfl ?_
    exact L16 101 0 v3_15 v2_13 (by omega) (by omega) (by omega) (by rw [hv2_13]; apply bI_eq; first | (refine Or.inl ⟨rfl, ?_⟩; rw [decide_eq_true (by omega)]; rfl) | (refine Or.inr ⟨rfl, ?_⟩; rw [decide_eq_false (by omega)]; rfl))
theorem iX5_pays_5 : ∀ w ∈ wsX50, w ∈ wsX5_pays := by decide +kernel
theorem fX5_pays_44 : Cond.fieldLink RX5 44 "MutualledgerModel" "fee" "I" ∈ wsX5_pays := by decide +kernel
theorem fX5_pays_13 : Cond.fieldLink RX5 13 "MutualledgerModel" "owes" "[I" ∈ wsX5_pays := by decide +kernel
set_option maxHeartbeats 4000000 in
set_option maxRecDepth 100000 in
theorem c_X5_pays {g : mG} {S : Mem} {s : Int} (hs : 0 ≤ s ∧ s < 8) (hg : RgR S) (hok : OkD (S 20)) (hfz : Fz (S 20) (S 21)) (l : Launch) : Does l yX5_pays wsX5_pays ({ frames := 2, cells := 0, slots := 0, locals := 44 } : Room) g [.ref (g.2.2 18), .int (z32 s)] S (PVx (fun S' => ∃ n, S' = mput S 20 (pyN (S 21) s (S 20, (bl (S 20) s * S 18 15).tdiv 1000) n).1 ∧ pystuck (S 21) s (pyN (S 21) s (S 20, (bl (S 20) s * S 18 15).tdiv 1000) n))) := by
  refine Does.of (cc := cX5_pays) (maxL := 5) (ret := none) (own := RX5) (by decide) rfl rfl (Nat.le_of_ble_eq_true rfl) ?_
  intro C hC hR
  show MW C g 5 (0, 0) 0 [(0, .ref (g.2.2 18)), (1, .int (z32 s))] [] S
  obtain ⟨r1, r2, r3, r4, r5, r6, r7⟩ := id hg
  have hbl := hok.1.bl (x := s) (by omega)
  have hmr := mul_rng hbl.1 hbl.2 r4.1 r4.2 (by omega)
  have htd := td_rng (k := 1000) (by omega) hmr.1 hmr.2
  rw [show (200000 : Int) * 500 = 100000000 from rfl] at hmr htd
  have hx0 : pyOk (S 21) (S 20, (bl (S 20) s * S 18 15).tdiv 1000) := ⟨hok, hfz, htd.1, htd.2⟩
  refine m_aload_n hC dX5_pays_0 0 rfl ?_
  refine m_iload_n hC dX5_pays_1 1 rfl ?_
  refine m_callVi (n := 1) hC (c_X5_balanceOf (by omega)) gX5_pays_X5_balanceOf rfl dX5_pays_2 rfl rfl (by decide +kernel) ⟨Nat.le_of_ble_eq_true rfl, Nat.le_of_ble_eq_true rfl⟩ rfl (Nat.le_of_ble_eq_true rfl) ⟨Nat.le_of_ble_eq_true rfl, Nat.le_of_ble_eq_true rfl⟩ rfl ?_
  refine m_i2l hC dX5_pays_5 (by omega) ?_
  refine m_aload_n hC dX5_pays_6 0 rfl ?_
  refine m_getI (o := 18) (j := 15) (ji := 15) (CN := RX5) (T := TX5) (N := 19) hC iX5_pays_5 fX5_pays_44 rfl dX5_pays_7 rfl rfl (by decide) rfl rfl ?_
  refine m_i2l hC dX5_pays_10 (by omega) ?_
  refine m_lmul hC dX5_pays_11 ?_
  refine m_ldc2 (a := 1000) hC dX5_pays_12 (by decide +kernel) ?_
  refine m_ldiv hC dX5_pays_15 (by omega) (by omega) ?_
  refine m_l2i hC dX5_pays_16 ?_
  refine m_istore_n hC dX5_pays_17 (fun z9 => [(2, .int (z32 z9)), (0, .ref (g.2.2 18)), (1, .int (z32 s))]) (by decide) (fun _ => rfl) (fun v2_17 hv2_17 => ?_)
  have L18 : ∀ (n18 : Nat) (n : Nat) (r : Int) (S1 : Mem), r + 100000000 < (n18 : Int) → r = (pyN (S 21) s (S 20, (bl (S 20) s * S 18 15).tdiv 1000) n).2 → S1 = mput S 20 (pyN (S 21) s (S 20, (bl (S 20) s * S 18 15).tdiv 1000) n).1 → -100000000 ≤ r → MW C g 5 (0, 0) 18 [(0, .ref (g.2.2 18)), (1, .int (z32 s)), (2, .int (z32 r))] [] S1 := by
    intro n18
    induction n18 with
    | zero => intros; exfalso; omega
    | succ n18 ih18 =>
      intro n r S1 hm18 hr hS1 hr0
      have hxn := pyN_ok hs hx0 n
      have e20 : S1 20 = (pyN (S 21) s (S 20, (bl (S 20) s * S 18 15).tdiv 1000) n).1 := by rw [hS1, mput_same]
      have e21 : S1 21 = S 21 := by rw [hS1]; rfl
      generalize hX : pyN (S 21) s (S 20, (bl (S 20) s * S 18 15).tdiv 1000) n = X at hr hS1 hxn e20
      have hxr := hxn.2.2
      have hOp : ∀ k : Int, 0 ≤ k ∧ k < 8 → 0 ≤ opF (S1 20) (S1 21) k s ∧ opF (S1 20) (S1 21) k s ≤ 200000 := fun k hk => by
        have h1 := hxn.1.1.ent (i := k) (j := s) (by omega) (by omega)
        have h2 := hxn.2.1 k s hk.1 (by omega) hs.1 (by omega)
        rw [← e20] at h1 h2
        rw [← e21] at h2
        unfold opF
        omega
      refine m_iload_n hC dX5_pays_18 2 rfl ?_
      refine m_if_le (tgt := 135) hC dX5_pays_19 (by decide) (by omega) (fun c_19 => ?_) (fun c_19 => ?_)
      · refine m_vretx hC hR dX5_pays_135 ⟨Nat.le_of_ble_eq_true rfl, Nat.le_of_ble_eq_true rfl⟩ ?_
        refine ⟨n, by rw [hS1, hX], ?_⟩; rw [hX]; exact Or.inl (by omega)
      · refine m_iconst (v := -1) hC dX5_pays_22 (by decide) ?_
        refine m_istore_n hC dX5_pays_23 (fun z9 => [(3, .int (z32 z9)), (0, .ref (g.2.2 18)), (1, .int (z32 s)), (2, .int (z32 r))]) (by decide) (fun _ => rfl) (fun v3_23 hv3_23 => ?_)
        refine m_iconst (v := 0) hC dX5_pays_24 (by decide) ?_
        refine m_istore hC dX5_pays_25 (fun z9 => [(4, .int (z32 z9)), (3, .int (z32 v3_23)), (0, .ref (g.2.2 18)), (1, .int (z32 s)), (2, .int (z32 r))]) (by decide) (fun _ => rfl) (fun v4_25 hv4_25 => ?_)
        have L27 : ∀ (n27 : Nat) (k : Nat) (y : Int) (m : Int), 8 - y < (n27 : Int) → y = (k : Int) → k ≤ 8 → m = mxF (S1 20) (S1 21) s k → MW C g 5 (0, 0) 27 [(0, .ref (g.2.2 18)), (1, .int (z32 s)), (2, .int (z32 r)), (3, .int (z32 m)), (4, .int (z32 y))] [] S1 := by
          intro n27
          induction n27 with
          | zero => intros; exfalso; omega
          | succ n27 ih27 =>
            intro k y m hm27 hy hk hm
            have hmi := mxF_in (S1 20) (S1 21) s k
            rw [← hm] at hmi
            refine m_iload hC dX5_pays_27 4 rfl ?_
            refine m_bipush (v := 8) hC dX5_pays_29 (by decide) ?_
            refine m_icmp_ge (tgt := 78) hC dX5_pays_31 (by decide) (by omega) (by omega) (fun c_31 => ?_) (fun c_31 => ?_)
            · refine m_iload_n hC dX5_pays_78 3 rfl ?_
              refine m_iconst (v := -1) hC dX5_pays_79 (by decide) ?_
              refine m_icmp_ne (tgt := 84) hC dX5_pays_80 (by decide) (by omega) (by omega) (fun c_80 => ?_) (fun c_80 => ?_)
              · refine m_iload_n hC dX5_pays_84 2 rfl ?_
                refine m_aload_n hC dX5_pays_85 0 rfl ?_
                refine m_iload_n hC dX5_pays_86 3 rfl ?_
                refine m_iload_n hC dX5_pays_87 1 rfl ?_
                rw [show k = 8 by omega] at hm hmi
                refine m_callVi (n := 2) hC (c_X5_free (by omega) (by omega)) gX5_pays_X5_free rfl dX5_pays_88 rfl rfl (by decide +kernel) ⟨Nat.le_of_ble_eq_true rfl, Nat.le_of_ble_eq_true rfl⟩ rfl (Nat.le_of_ble_eq_true rfl) ⟨Nat.le_of_ble_eq_true rfl, Nat.le_of_ble_eq_true rfl⟩ rfl ?_
                refine m_callSi (n := 2) hC (c_X5_least (by omega) (by have h9 := hOp m (by omega); unfold opF at h9; omega)) gX5_pays_X5_least rfl dX5_pays_91 (by decide +kernel) ⟨Nat.le_of_ble_eq_true rfl, Nat.le_of_ble_eq_true rfl⟩ rfl (Nat.le_of_ble_eq_true rfl) ⟨Nat.le_of_ble_eq_true rfl, Nat.le_of_ble_eq_true rfl⟩ rfl ?_
                refine m_istore hC dX5_pays_94 (fun z9 => [(4, .int (z32 z9)), (0, .ref (g.2.2 18)), (1, .int (z32 s)), (2, .int (z32 r)), (3, .int (z32 m))]) (by decide) (fun _ => rfl) (fun v4_94 hv4_94 => ?_)
                refine m_aload_n hC dX5_pays_96 1 rfl ?_
                refine m_getR (o := 18) (j := 3) (a := 20) (CN := RX5) (T := TX5) (N := 19) hC iX5_pays_5 fX5_pays_13 rfl dX5_pays_97 rfl rfl (by decide) rfl ?_
                refine m_iload_n hC dX5_pays_100 4 rfl ?_
                refine m_iload_n hC dX5_pays_101 2 rfl ?_
                refine m_callSi (n := 2) hC (c_X5_at) gX5_pays_X5_at rfl dX5_pays_102 (by decide +kernel) ⟨Nat.le_of_ble_eq_true rfl, Nat.le_of_ble_eq_true rfl⟩ rfl (Nat.le_of_ble_eq_true rfl) ⟨Nat.le_of_ble_eq_true rfl, Nat.le_of_ble_eq_true rfl⟩ rfl ?_
                refine m_dup2 hC dX5_pays_105 rfl rfl ?_
                refine m_iaload (o := 20) (n := 81) hC rfl dX5_pays_106 (ix_lo (by omega) (by omega)) (ix_hi (by omega) (by omega)) (by decide) ?_
                refine m_iload hC dX5_pays_107 0 rfl ?_
                refine m_isub hC dX5_pays_109 ?_
                refine m_iastore (o := 20) (n := 81) hC rfl dX5_pays_110 (ix_lo (by omega) (by omega)) (ix_hi (by omega) (by omega)) (by decide) ?_
                refine m_aload_n hC dX5_pays_111 1 rfl ?_
                refine m_getR (o := 18) (j := 3) (a := 20) (CN := RX5) (T := TX5) (N := 19) hC iX5_pays_5 fX5_pays_13 rfl dX5_pays_112 rfl rfl (by decide) rfl ?_
                refine m_iload_n hC dX5_pays_115 4 rfl ?_
                refine m_bipush (v := 8) hC dX5_pays_116 (by decide) ?_
                refine m_callSi (n := 2) hC (c_X5_at) gX5_pays_X5_at rfl dX5_pays_118 (by decide +kernel) ⟨Nat.le_of_ble_eq_true rfl, Nat.le_of_ble_eq_true rfl⟩ rfl (Nat.le_of_ble_eq_true rfl) ⟨Nat.le_of_ble_eq_true rfl, Nat.le_of_ble_eq_true rfl⟩ rfl ?_
                refine m_dup2 hC dX5_pays_121 rfl rfl ?_
                refine m_iaload (o := 20) (n := 81) hC rfl dX5_pays_122 (ix_lo (by omega) (by omega)) (ix_hi (by omega) (by omega)) (by decide) ?_
                refine m_iload hC dX5_pays_123 0 rfl ?_
                refine m_iadd hC dX5_pays_125 ?_
                refine m_iastore (o := 20) (n := 81) hC rfl dX5_pays_126 (ix_lo (by omega) (by omega)) (ix_hi (by omega) (by omega)) (by decide) ?_
                refine m_iload_n hC dX5_pays_127 3 rfl ?_
                refine m_iload hC dX5_pays_128 0 rfl ?_
                refine m_isub hC dX5_pays_130 ?_
                refine m_istore_n hC dX5_pays_131 (fun z9 => [(2, .int (z32 z9)), (4, .int (z32 v4_94)), (0, .ref (g.2.2 18)), (1, .int (z32 s)), (3, .int (z32 m))]) (by decide) (fun _ => rfl) (fun v2_131 hv2_131 => ?_)
                have hst := pyS_ok hs hxn
                have hcond : 0 < X.2 ∧ mxF X.1 (S 21) s 8 ≠ -1 := ⟨by omega, by rw [← e20, ← e21, ← hm]; exact c_80⟩
                have hrr := hst.2 (fun z => z.elim (fun w => w hcond.1) (fun w => hcond.2 w))
                have hN : v2_131 = (pyN (S 21) s (S 20, (bl (S 20) s * S 18 15).tdiv 1000) (n + 1)).2 ∧ mset (mset S1 20 (ix m s) (S1 20 (ix m s) - v4_94)) 20 (ix m 8) (mset S1 20 (ix m s) (S1 20 (ix m s) - v4_94) 20 (ix m 8) + v4_94) = mput S 20 (pyN (S 21) s (S 20, (bl (S 20) s * S 18 15).tdiv 1000) (n + 1)).1 := by
                  rw [show pyN (S 21) s (S 20, (bl (S 20) s * S 18 15).tdiv 1000) (n + 1) = pyS (S 21) s (pyN (S 21) s (S 20, (bl (S 20) s * S 18 15).tdiv 1000) n) from rfl, hX, pyS, if_pos hcond, hv2_131, hv4_94, hr, hm]
                  subst hS1
                  refine ⟨rfl, ?_⟩
                  rw [mset_mput, mset_mput, mput_same, mput_mput, mput_mput]
                  rfl
                have hrn : v2_131 ≤ r - 1 := by
                  rw [hN.1, show pyN (S 21) s (S 20, (bl (S 20) s * S 18 15).tdiv 1000) (n + 1) = pyS (S 21) s (pyN (S 21) s (S 20, (bl (S 20) s * S 18 15).tdiv 1000) n) from rfl, hX, hr]
                  exact hrr
                have hlow := (pyN_ok hs hx0 (n + 1)).2.2.1
                rw [← hN.1] at hlow
                refine m_goto (tgt := 18) hC dX5_pays_132 (by decide) ?_
                refine m_locals [2, 3, 0] rfl ?_
                exact ih18 (n + 1) v2_131 _ (by omega) (hN.1) (hN.2) (by omega)
              · refine m_vretx hC hR dX5_pays_83 ⟨Nat.le_of_ble_eq_true rfl, Nat.le_of_ble_eq_true rfl⟩ ?_
                refine ⟨n, by rw [hS1, hX], ?_⟩; rw [hX]; refine Or.inr ?_; rw [← e20, ← e21, show (8 : Nat) = k by omega, ← hm]; exact Decidable.of_not_not c_80
            · refine m_aload_n hC dX5_pays_34 0 rfl ?_
              refine m_iload hC dX5_pays_35 4 rfl ?_
              refine m_iload_n hC dX5_pays_37 1 rfl ?_
              refine m_callVi (n := 2) hC (c_X5_free (by omega) (by omega)) gX5_pays_X5_free rfl dX5_pays_38 rfl rfl (by decide +kernel) ⟨Nat.le_of_ble_eq_true rfl, Nat.le_of_ble_eq_true rfl⟩ rfl (Nat.le_of_ble_eq_true rfl) ⟨Nat.le_of_ble_eq_true rfl, Nat.le_of_ble_eq_true rfl⟩ rfl ?_
              refine m_if_le (tgt := 70) hC dX5_pays_41 (by decide) (by have h9 := hOp y (by omega); unfold opF at h9; omega) (fun c_41 => ?_) (fun c_41 => ?_)
              · refine m_iload_n hC dX5_pays_70 3 rfl ?_
                refine m_istore_n hC dX5_pays_71 (fun z9 => [(3, .int (z32 z9)), (0, .ref (g.2.2 18)), (1, .int (z32 s)), (2, .int (z32 r)), (4, .int (z32 y))]) (by decide) (fun _ => rfl) (fun v3_71 hv3_71 => ?_)
                refine m_iinc hC dX5_pays_72 4 rfl (fun z9 => [(4, .int (z32 z9)), (3, .int (z32 v3_71)), (0, .ref (g.2.2 18)), (1, .int (z32 s)), (2, .int (z32 r))]) (by decide) (fun _ => rfl) (fun v4_72 hv4_72 => ?_)
                refine m_goto (tgt := 27) hC dX5_pays_75 (by decide) ?_
                refine m_locals [2, 3, 4, 1, 0] rfl ?_
                exact ih27 (k + 1) v4_72 v3_71 (by omega) (by omega) (by omega) (by rw [mxF, ← hy, ← hm, hv3_71]; unfold opF; first | rw [if_pos (by omega)] | rw [if_neg (by omega)])
              · refine m_iload_n hC dX5_pays_44 3 rfl ?_
                refine m_iconst (v := -1) hC dX5_pays_45 (by decide) ?_
                refine m_icmp_eq (tgt := 65) hC dX5_pays_46 (by decide) (by omega) (by omega) (fun c_46 => ?_) (fun c_46 => ?_)
                · refine m_iload hC dX5_pays_65 4 rfl ?_
                  refine m_goto (tgt := 71) hC dX5_pays_67 (by decide) ?_
                  refine m_istore_n hC dX5_pays_71 (fun z9 => [(3, .int (z32 z9)), (0, .ref (g.2.2 18)), (1, .int (z32 s)), (2, .int (z32 r)), (4, .int (z32 y))]) (by decide) (fun _ => rfl) (fun v3_71 hv3_71 => ?_)
                  refine m_iinc hC dX5_pays_72 4 rfl (fun z9 => [(4, .int (z32 z9)), (3, .int (z32 v3_71)), (0, .ref (g.2.2 18)), (1, .int (z32 s)), (2, .int (z32 r))]) (by decide) (fun _ => rfl) (fun v4_72 hv4_72 => ?_)
                  refine m_goto (tgt := 27) hC dX5_pays_75 (by decide) ?_
                  refine m_locals [2, 3, 4, 1, 0] rfl ?_
                  exact ih27 (k + 1) v4_72 v3_71 (by omega) (by omega) (by omega) (by rw [mxF, ← hy, ← hm, hv3_71]; unfold opF; first | rw [if_pos (by omega)] | rw [if_neg (by omega)])
                · refine m_aload_n hC dX5_pays_49 0 rfl ?_
                  refine m_iload hC dX5_pays_50 4 rfl ?_
                  refine m_iload_n hC dX5_pays_52 1 rfl ?_
                  refine m_callVi (n := 2) hC (c_X5_free (by omega) (by omega)) gX5_pays_X5_free rfl dX5_pays_53 rfl rfl (by decide +kernel) ⟨Nat.le_of_ble_eq_true rfl, Nat.le_of_ble_eq_true rfl⟩ rfl (Nat.le_of_ble_eq_true rfl) ⟨Nat.le_of_ble_eq_true rfl, Nat.le_of_ble_eq_true rfl⟩ rfl ?_
                  refine m_aload_n hC dX5_pays_56 0 rfl ?_
                  refine m_iload_n hC dX5_pays_57 3 rfl ?_
                  refine m_iload_n hC dX5_pays_58 1 rfl ?_
                  refine m_callVi (n := 2) hC (c_X5_free (by omega) (by omega)) gX5_pays_X5_free rfl dX5_pays_59 rfl rfl (by decide +kernel) ⟨Nat.le_of_ble_eq_true rfl, Nat.le_of_ble_eq_true rfl⟩ rfl (Nat.le_of_ble_eq_true rfl) ⟨Nat.le_of_ble_eq_true rfl, Nat.le_of_ble_eq_true rfl⟩ rfl ?_
                  refine m_icmp_le (tgt := 70) hC dX5_pays_62 (by decide) (by have h9 := hOp y (by omega); unfold opF at h9; omega) (by have h9 := hOp m (by omega); unfold opF at h9; omega) (fun c_62 => ?_) (fun c_62 => ?_)
                  · refine m_iload_n hC dX5_pays_70 3 rfl ?_
                    refine m_istore_n hC dX5_pays_71 (fun z9 => [(3, .int (z32 z9)), (0, .ref (g.2.2 18)), (1, .int (z32 s)), (2, .int (z32 r)), (4, .int (z32 y))]) (by decide) (fun _ => rfl) (fun v3_71 hv3_71 => ?_)
                    refine m_iinc hC dX5_pays_72 4 rfl (fun z9 => [(4, .int (z32 z9)), (3, .int (z32 v3_71)), (0, .ref (g.2.2 18)), (1, .int (z32 s)), (2, .int (z32 r))]) (by decide) (fun _ => rfl) (fun v4_72 hv4_72 => ?_)
                    refine m_goto (tgt := 27) hC dX5_pays_75 (by decide) ?_
                    refine m_locals [2, 3, 4, 1, 0] rfl ?_
                    exact ih27 (k + 1) v4_72 v3_71 (by omega) (by omega) (by omega) (by rw [mxF, ← hy, ← hm, hv3_71]; unfold opF; first | rw [if_pos (by omega)] | rw [if_neg (by omega)])
                  · refine m_iload hC dX5_pays_65 4 rfl ?_
                    refine m_goto (tgt := 71) hC dX5_pays_67 (by decide) ?_
                    refine m_istore_n hC dX5_pays_71 (fun z9 => [(3, .int (z32 z9)), (0, .ref (g.2.2 18)), (1, .int (z32 s)), (2, .int (z32 r)), (4, .int (z32 y))]) (by decide) (fun _ => rfl) (fun v3_71 hv3_71 => ?_)
                    refine m_iinc hC dX5_pays_72 4 rfl (fun z9 => [(4, .int (z32 z9)), (3, .int (z32 v3_71)), (0, .ref (g.2.2 18)), (1, .int (z32 s)), (2, .int (z32 r))]) (by decide) (fun _ => rfl) (fun v4_72 hv4_72 => ?_)
                    refine m_goto (tgt := 27) hC dX5_pays_75 (by decide) ?_
                    refine m_locals [2, 3, 4, 1, 0] rfl ?_
                    exact ih27 (k + 1) v4_72 v3_71 (by omega) (by omega) (by omega) (by rw [mxF, ← hy, ← hm, hv3_71]; unfold opF; first | rw [if_pos (by omega)] | rw [if_neg (by omega)])
        refine m_locals [2, 3, 4, 1, 0] rfl ?_
        exact L27 9 0 v4_25 v3_23 (by omega) (by omega) (by omega) (hv3_23)
  refine m_locals [1, 2, 0] rfl ?_
  exact L18 200000001 0 v2_17 S (by omega) (hv2_17) ((mput_self S 20).symm) (by omega)
