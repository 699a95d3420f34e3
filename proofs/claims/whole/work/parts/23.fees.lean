/-! ===== the class: shops, limits, fees ===== -/
theorem m2_m2 (S : Mem) (u q : Fn × Fn) : m2 (m2 S u) q = m2 S q := by
  funext o
  simp only [m2, mput]
  by_cases h14 : o = 14
  · subst h14; simp
  · by_cases h8 : o = 8
    · subst h8; simp
    · simp [h8, h14]
theorem m2_pf {S : Mem} (s : Int) (x : Fn × Fn × Int) : mput (mput (mput (m2 S (x.1, x.2.1)) 8 (adF (m2 S (x.1, x.2.1) 8) (gdF x.1 (S 10) s 7) s (-(mn x.2.2 (x.1 (ix (gdF x.1 (S 10) s 7) s) - S 10 (ix (gdF x.1 (S 10) s 7) s)))))) 8 (adF (mput (m2 S (x.1, x.2.1)) 8 (adF (m2 S (x.1, x.2.1) 8) (gdF x.1 (S 10) s 7) s (-(mn x.2.2 (x.1 (ix (gdF x.1 (S 10) s 7) s) - S 10 (ix (gdF x.1 (S 10) s 7) s))))) 8) (gdF x.1 (S 10) s 7) 8 (mn x.2.2 (x.1 (ix (gdF x.1 (S 10) s 7) s) - S 10 (ix (gdF x.1 (S 10) s 7) s))))) 14 (adF (mput (mput (m2 S (x.1, x.2.1)) 8 (adF (m2 S (x.1, x.2.1) 8) (gdF x.1 (S 10) s 7) s (-(mn x.2.2 (x.1 (ix (gdF x.1 (S 10) s 7) s) - S 10 (ix (gdF x.1 (S 10) s 7) s)))))) 8 (adF (mput (m2 S (x.1, x.2.1)) 8 (adF (m2 S (x.1, x.2.1) 8) (gdF x.1 (S 10) s 7) s (-(mn x.2.2 (x.1 (ix (gdF x.1 (S 10) s 7) s) - S 10 (ix (gdF x.1 (S 10) s 7) s))))) 8) (gdF x.1 (S 10) s 7) 8 (mn x.2.2 (x.1 (ix (gdF x.1 (S 10) s 7) s) - S 10 (ix (gdF x.1 (S 10) s 7) s)))) 14) s 8 (mn x.2.2 (x.1 (ix (gdF x.1 (S 10) s 7) s) - S 10 (ix (gdF x.1 (S 10) s 7) s)))) = m2 S ((pfF (S 10) s x).1, (pfF (S 10) s x).2.1) := by
  obtain ⟨a, b, d⟩ := x
  funext o
  simp only [m2, pfF, mput]
  by_cases h8 : o = 8
  · subst h8; simp
  · by_cases h14 : o = 14
    · subst h14; simp
    · simp [h8, h14]
theorem c_openTo9 {g : mG} {S : Mem} {j : Int} (hj : 0 ≤ j ∧ j < 9) (l : Launch) : Does l yX0_openTo wsX0_openTo ({ frames := 3, cells := 0, slots := 0, locals := 69 } : Room) g [.ref (g.2.2 6), .int (z32 j)] S (PI (col (S 8) j - col (S 10) j) S) := by
  have h := c_X0_openTo (g := g) (S := S) (j := j) (by omega) l
  rw [sI_cong (f := fun r => tg 9 9 (S 8) r j) (g := fun i => S 8 (ix i j)) (fun k a b => tg_ix ⟨a, b⟩ hj), sI_cong (f := fun r => tg 9 9 (S 10) r j) (g := fun i => S 10 (ix i j)) (fun k a b => tg_ix ⟨a, b⟩ hj)] at h
  exact h
theorem c_god9 {g : mG} {S : Mem} {s : Int} (hs : 0 ≤ s ∧ s < 9) (hO : opnOk S) (l : Launch) : Does l yX0_greatestOpenDebtorOf wsX0_greatestOpenDebtorOf ({ frames := 3, cells := 0, slots := 0, locals := 68 } : Room) g [.ref (g.2.2 6), .int (z32 s)] S (PI (gdF (S 8) (S 10) s 7) S) := by
  rw [← god_gdF hs 7 (by omega)]
  exact c_X0_greatestOpenDebtorOf (by omega) hO l
theorem iX4_wasShop_4 : ∀ w ∈ wsX40, w ∈ wsX4_wasShop := by decide +kernel
theorem fX4_wasShop_45 : Cond.fieldLink RX4 45 "Mutualledger" "joined" "I" ∈ wsX4_wasShop := by decide +kernel
set_option maxHeartbeats 4000000 in
set_option maxRecDepth 100000 in
theorem c_X4_wasShop {g : mG} {S : Mem} {s : Int} (hs : -2147483648 ≤ s ∧ s < 2147483648) (hg : Rg S) (l : Launch) : Does l yX4_wasShop wsX4_wasShop ({ frames := 0, cells := 0, slots := 0, locals := 0 } : Room) g [.ref (g.2.2 0), .int (z32 s)] S (PI (bI (was S s)) S) := by
  refine Does.of (cc := cX4_wasShop) (maxL := 2) (ret := (some .boolean)) (own := RX4) (by decide) rfl rfl (Nat.le_of_ble_eq_true rfl) ?_
  intro C hC hR
  show MW C g 2 (0, 0) 0 [(0, .ref (g.2.2 0)), (1, .int (z32 s))] [] S
  obtain ⟨r1, r2, r3, r4, r5, r6⟩ := id hg
  refine m_iload_n hC dX4_wasShop_0 1 rfl ?_
  refine m_if_lt (tgt := 16) hC dX4_wasShop_1 (by decide) (by omega) (fun c_1 => ?_) (fun c_1 => ?_)
  · refine m_iconst (v := 0) hC dX4_wasShop_16 (by decide) ?_
    refine m_ireti hC hR (Or.inr ⟨rfl, by first | exact Or.inl rfl | exact Or.inr rfl | omega⟩) dX4_wasShop_17 ⟨Nat.le_of_ble_eq_true rfl, Nat.le_of_ble_eq_true rfl⟩ ?_ ?_
    · first | (rw [bI, if_neg (by simp only [was, decide_eq_true_eq]; omega)]; done) | rw [bI, if_pos (by simp only [was, decide_eq_true_eq]; omega)]
    · rfl
  · refine m_iload_n hC dX4_wasShop_4 1 rfl ?_
    refine m_aload_n hC dX4_wasShop_5 0 rfl ?_
    refine m_getI (o := 0) (j := 6) (ji := 6) (CN := RX4) (T := TX4) (N := 9) hC iX4_wasShop_4 fX4_wasShop_45 rfl dX4_wasShop_6 rfl rfl (by decide) rfl rfl ?_
    refine m_icmp_ge (tgt := 16) hC dX4_wasShop_9 (by decide) (by omega) (by omega) (fun c_9 => ?_) (fun c_9 => ?_)
    · refine m_iconst (v := 0) hC dX4_wasShop_16 (by decide) ?_
      refine m_ireti hC hR (Or.inr ⟨rfl, by first | exact Or.inl rfl | exact Or.inr rfl | omega⟩) dX4_wasShop_17 ⟨Nat.le_of_ble_eq_true rfl, Nat.le_of_ble_eq_true rfl⟩ ?_ ?_
      · first | (rw [bI, if_neg (by simp only [was, decide_eq_true_eq]; omega)]; done) | rw [bI, if_pos (by simp only [was, decide_eq_true_eq]; omega)]
      · rfl
    · refine m_iconst (v := 1) hC dX4_wasShop_12 (by decide) ?_
      refine m_goto (tgt := 17) hC dX4_wasShop_13 (by decide) ?_
      refine m_ireti hC hR (Or.inr ⟨rfl, by first | exact Or.inl rfl | exact Or.inr rfl | omega⟩) dX4_wasShop_17 ⟨Nat.le_of_ble_eq_true rfl, Nat.le_of_ble_eq_true rfl⟩ ?_ ?_
      · first | (rw [bI, if_neg (by simp only [was, decide_eq_true_eq]; omega)]; done) | rw [bI, if_pos (by simp only [was, decide_eq_true_eq]; omega)]
      · rfl
theorem iX4_isShop_4 : ∀ w ∈ wsX40, w ∈ wsX4_isShop := by decide +kernel
theorem fX4_isShop_14 : Cond.fieldLink RX4 14 "Mutualledger" "shops" "LMutualledger$Table;" ∈ wsX4_isShop := by decide +kernel
set_option maxHeartbeats 4000000 in
set_option maxRecDepth 100000 in
theorem c_X4_isShop {g : mG} {S : Mem} {s : Int} (hs : -2147483648 ≤ s ∧ s < 2147483648) (hg : Rg S) (l : Launch) : Does l yX4_isShop wsX4_isShop ({ frames := 2, cells := 0, slots := 0, locals := 46 } : Room) g [.ref (g.2.2 0), .int (z32 s)] S (PI (bI (liv S s)) S) := by
  refine Does.of (cc := cX4_isShop) (maxL := 2) (ret := (some .boolean)) (own := RX4) (by decide) rfl rfl (Nat.le_of_ble_eq_true rfl) ?_
  intro C hC hR
  show MW C g 2 (0, 0) 0 [(0, .ref (g.2.2 0)), (1, .int (z32 s))] [] S
  obtain ⟨r1, r2, r3, r4, r5, r6⟩ := id hg
  refine m_aload_n hC dX4_isShop_0 0 rfl ?_
  refine m_iload_n hC dX4_isShop_1 1 rfl ?_
  refine m_callVi (n := 1) hC (c_X4_wasShop hs hg) gX4_isShop_X4_wasShop rfl dX4_isShop_2 rfl rfl (by decide +kernel) ⟨Nat.le_of_ble_eq_true rfl, Nat.le_of_ble_eq_true rfl⟩ rfl (Nat.le_of_ble_eq_true rfl) ⟨Nat.le_of_ble_eq_true rfl, Nat.le_of_ble_eq_true rfl⟩ rfl ?_
  refine m_if_eq (tgt := 24) hC dX4_isShop_5 (by decide) (by have := bI_rng (was S s); omega) (fun c_5 => ?_) (fun c_5 => ?_)
  · have hb := bI_0 c_5
    refine m_iconst (v := 0) hC dX4_isShop_24 (by decide) ?_
    refine m_ireti hC hR (Or.inr ⟨rfl, by first | exact Or.inl rfl | exact Or.inr rfl | omega⟩) dX4_isShop_25 ⟨Nat.le_of_ble_eq_true rfl, Nat.le_of_ble_eq_true rfl⟩ ?_ ?_
    · simp [bI, liv, *]
    · rfl
  · have hb := bI_1 c_5
    refine m_aload_n hC dX4_isShop_8 0 rfl ?_
    refine m_getR (o := 0) (j := 0) (a := 1) (CN := RX4) (T := TX4) (N := 9) hC iX4_isShop_4 fX4_isShop_14 rfl dX4_isShop_9 rfl rfl (by decide) rfl ?_
    refine m_iload_n hC dX4_isShop_12 1 rfl ?_
    refine m_iconst (v := 0) hC dX4_isShop_13 (by decide) ?_
    refine m_callVi (n := 2) hC (c_X2_get T1 hs (by omega)) gX4_isShop_X2_get rfl dX4_isShop_14 rfl rfl (by decide +kernel) ⟨Nat.le_of_ble_eq_true rfl, Nat.le_of_ble_eq_true rfl⟩ rfl (Nat.le_of_ble_eq_true rfl) ⟨Nat.le_of_ble_eq_true rfl, Nat.le_of_ble_eq_true rfl⟩ rfl ?_
    refine m_if_ne (tgt := 24) hC dX4_isShop_17 (by decide) (by have := r5 s; omega) (fun c_17 => ?_) (fun c_17 => ?_)
    · refine m_iconst (v := 0) hC dX4_isShop_24 (by decide) ?_
      refine m_ireti hC hR (Or.inr ⟨rfl, by first | exact Or.inl rfl | exact Or.inr rfl | omega⟩) dX4_isShop_25 ⟨Nat.le_of_ble_eq_true rfl, Nat.le_of_ble_eq_true rfl⟩ ?_ ?_
      · simp [bI, liv, *]
      · rfl
    · refine m_iconst (v := 1) hC dX4_isShop_20 (by decide) ?_
      refine m_goto (tgt := 25) hC dX4_isShop_21 (by decide) ?_
      refine m_ireti hC hR (Or.inr ⟨rfl, by first | exact Or.inl rfl | exact Or.inr rfl | omega⟩) dX4_isShop_25 ⟨Nat.le_of_ble_eq_true rfl, Nat.le_of_ble_eq_true rfl⟩ ?_ ?_
      · simp [bI, liv, *]
      · rfl
theorem iX4_limitOf_4 : ∀ w ∈ wsX40, w ∈ wsX4_limitOf := by decide +kernel
theorem fX4_limitOf_21 : Cond.fieldLink RX4 21 "Mutualledger" "trades" "LMutualledger$Trades;" ∈ wsX4_limitOf := by decide +kernel
theorem fX4_limitOf_49 : Cond.fieldLink RX4 49 "Mutualledger" "today" "I" ∈ wsX4_limitOf := by decide +kernel
theorem fX4_limitOf_32 : Cond.fieldLink RX4 32 "Mutualledger" "guarantees" "LMutualledger$Table;" ∈ wsX4_limitOf := by decide +kernel
set_option maxHeartbeats 4000000 in
set_option maxRecDepth 100000 in
theorem c_X4_limitOf {g : mG} {S : Mem} {s : Int} (hs : 0 ≤ s ∧ s < 9) (hg : Rg S) (l : Launch) : Does l yX4_limitOf wsX4_limitOf ({ frames := 5, cells := 0, slots := 0, locals := 115 } : Room) g [.ref (g.2.2 0), .int (z32 s)] S (PI (lim S s) S) := by
  refine Does.of (cc := cX4_limitOf) (maxL := 3) (ret := (some .int)) (own := RX4) (by decide) rfl rfl (Nat.le_of_ble_eq_true rfl) ?_
  intro C hC hR
  show MW C g 3 (0, 0) 0 [(0, .ref (g.2.2 0)), (1, .int (z32 s))] [] S
  obtain ⟨r1, r2, r3, r4, r5, r6⟩ := id hg
  have ha := amt_rng hg s (S 0 7 - 10 + 1)
  refine m_aload_n hC dX4_limitOf_0 0 rfl ?_
  refine m_getR (o := 0) (j := 1) (a := 3) (CN := RX4) (T := TX4) (N := 9) hC iX4_limitOf_4 fX4_limitOf_21 rfl dX4_limitOf_1 rfl rfl (by decide) rfl ?_
  refine m_iload_n hC dX4_limitOf_4 1 rfl ?_
  refine m_aload_n hC dX4_limitOf_5 0 rfl ?_
  refine m_getI (o := 0) (j := 7) (ji := 7) (CN := RX4) (T := TX4) (N := 9) hC iX4_limitOf_4 fX4_limitOf_49 rfl dX4_limitOf_6 rfl rfl (by decide) rfl rfl ?_
  refine m_bipush (v := 10) hC dX4_limitOf_9 (by decide) ?_
  refine m_isub hC dX4_limitOf_11 ?_
  refine m_iconst (v := 1) hC dX4_limitOf_12 (by decide) ?_
  refine m_iadd hC dX4_limitOf_13 ?_
  refine m_callVi (n := 2) hC (c_X3_amountsSince (by omega) (by omega) hg.trd r4) gX4_limitOf_X3_amountsSince rfl dX4_limitOf_14 rfl rfl (by decide +kernel) ⟨Nat.le_of_ble_eq_true rfl, Nat.le_of_ble_eq_true rfl⟩ rfl (Nat.le_of_ble_eq_true rfl) ⟨Nat.le_of_ble_eq_true rfl, Nat.le_of_ble_eq_true rfl⟩ rfl ?_
  refine m_istore_n hC dX4_limitOf_17 (fun z9 => [(2, .int (z32 z9)), (0, .ref (g.2.2 0)), (1, .int (z32 s))]) (by decide) (fun _ => rfl) (fun v2_17 hv2_17 => ?_)
  refine m_sipush (v := 500) hC dX4_limitOf_18 (by decide) ?_
  refine m_aload_n hC dX4_limitOf_21 1 rfl ?_
  refine m_getR (o := 0) (j := 3) (a := 11) (CN := RX4) (T := TX4) (N := 9) hC iX4_limitOf_4 fX4_limitOf_32 rfl dX4_limitOf_22 rfl rfl (by decide) rfl ?_
  refine m_iload_n hC dX4_limitOf_25 2 rfl ?_
  refine m_callVi (n := 1) hC (c_col12 hs) gX4_limitOf_X2_columnSum rfl dX4_limitOf_26 rfl rfl (by decide +kernel) ⟨Nat.le_of_ble_eq_true rfl, Nat.le_of_ble_eq_true rfl⟩ rfl (Nat.le_of_ble_eq_true rfl) ⟨Nat.le_of_ble_eq_true rfl, Nat.le_of_ble_eq_true rfl⟩ rfl ?_
  refine m_iadd hC dX4_limitOf_29 ?_
  refine m_aload_n hC dX4_limitOf_30 1 rfl ?_
  refine m_getR (o := 0) (j := 3) (a := 11) (CN := RX4) (T := TX4) (N := 9) hC iX4_limitOf_4 fX4_limitOf_32 rfl dX4_limitOf_31 rfl rfl (by decide) rfl ?_
  refine m_iload_n hC dX4_limitOf_34 2 rfl ?_
  refine m_callVi (n := 1) hC (c_row12 hs) gX4_limitOf_X2_rowSum rfl dX4_limitOf_35 rfl rfl (by decide +kernel) ⟨Nat.le_of_ble_eq_true rfl, Nat.le_of_ble_eq_true rfl⟩ rfl (Nat.le_of_ble_eq_true rfl) ⟨Nat.le_of_ble_eq_true rfl, Nat.le_of_ble_eq_true rfl⟩ rfl ?_
  refine m_isub hC dX4_limitOf_38 ?_
  refine m_iload_n hC dX4_limitOf_39 0 rfl ?_
  refine m_bipush (v := 10) hC dX4_limitOf_40 (by decide) ?_
  refine m_idiv hC dX4_limitOf_42 (by omega) (by omega) ?_
  refine m_iadd hC dX4_limitOf_43 ?_
  refine m_ireti hC hR (Or.inl rfl) dX4_limitOf_44 ⟨Nat.le_of_ble_eq_true rfl, Nat.le_of_ble_eq_true rfl⟩ ?_ ?_
  · rw [hv2_17]; rfl
  · rfl
theorem iX4_isIdleShop_4 : ∀ w ∈ wsX40, w ∈ wsX4_isIdleShop := by decide +kernel
theorem fX4_isIdleShop_28 : Cond.fieldLink RX4 28 "Mutualledger" "debts" "LMutualledger$Debts;" ∈ wsX4_isIdleShop := by decide +kernel
theorem fX4_isIdleShop_21 : Cond.fieldLink RX4 21 "Mutualledger" "trades" "LMutualledger$Trades;" ∈ wsX4_isIdleShop := by decide +kernel
theorem fX4_isIdleShop_49 : Cond.fieldLink RX4 49 "Mutualledger" "today" "I" ∈ wsX4_isIdleShop := by decide +kernel
set_option maxHeartbeats 4000000 in
set_option maxRecDepth 100000 in
theorem c_X4_isIdleShop {g : mG} {S : Mem} {s : Int} (hs : 0 ≤ s ∧ s < 9) (hg : Rg S) (hok : Ok (S 8)) (l : Launch) : Does l yX4_isIdleShop wsX4_isIdleShop ({ frames := 5, cells := 0, slots := 0, locals := 113 } : Room) g [.ref (g.2.2 0), .int (z32 s)] S (PI (bI (idF S (S 8) s)) S) := by
  refine Does.of (cc := cX4_isIdleShop) (maxL := 2) (ret := (some .boolean)) (own := RX4) (by decide) rfl rfl (Nat.le_of_ble_eq_true rfl) ?_
  intro C hC hR
  show MW C g 2 (0, 0) 0 [(0, .ref (g.2.2 0)), (1, .int (z32 s))] [] S
  obtain ⟨r1, r2, r3, r4, r5, r6⟩ := id hg
  have hbl := hok.bl hs
  refine m_aload_n hC dX4_isIdleShop_0 0 rfl ?_
  refine m_getR (o := 0) (j := 2) (a := 6) (CN := RX4) (T := TX4) (N := 9) hC iX4_isIdleShop_4 fX4_isIdleShop_28 rfl dX4_isIdleShop_1 rfl rfl (by decide) rfl ?_
  refine m_iload_n hC dX4_isIdleShop_4 1 rfl ?_
  refine m_callVi (n := 1) hC (c_bal9 hs) gX4_isIdleShop_X0_balanceOf rfl dX4_isIdleShop_5 rfl rfl (by decide +kernel) ⟨Nat.le_of_ble_eq_true rfl, Nat.le_of_ble_eq_true rfl⟩ rfl (Nat.le_of_ble_eq_true rfl) ⟨Nat.le_of_ble_eq_true rfl, Nat.le_of_ble_eq_true rfl⟩ rfl ?_
  refine m_if_le (tgt := 34) hC dX4_isIdleShop_8 (by decide) (by omega) (fun c_8 => ?_) (fun c_8 => ?_)
  · refine m_iconst (v := 0) hC dX4_isIdleShop_34 (by decide) ?_
    refine m_ireti hC hR (Or.inr ⟨rfl, by first | exact Or.inl rfl | exact Or.inr rfl | omega⟩) dX4_isIdleShop_35 ⟨Nat.le_of_ble_eq_true rfl, Nat.le_of_ble_eq_true rfl⟩ ?_ ?_
    · first | (simp [bI, idF, rec4, *]; done) | (simp [bI, idF, rec4, *]; omega)
    · rfl
  · refine m_aload_n hC dX4_isIdleShop_11 0 rfl ?_
    refine m_getR (o := 0) (j := 1) (a := 3) (CN := RX4) (T := TX4) (N := 9) hC iX4_isIdleShop_4 fX4_isIdleShop_21 rfl dX4_isIdleShop_12 rfl rfl (by decide) rfl ?_
    refine m_iload_n hC dX4_isIdleShop_15 1 rfl ?_
    refine m_aload_n hC dX4_isIdleShop_16 0 rfl ?_
    refine m_getI (o := 0) (j := 7) (ji := 7) (CN := RX4) (T := TX4) (N := 9) hC iX4_isIdleShop_4 fX4_isIdleShop_49 rfl dX4_isIdleShop_17 rfl rfl (by decide) rfl rfl ?_
    refine m_iconst (v := 5) hC dX4_isIdleShop_20 (by decide) ?_
    refine m_isub hC dX4_isIdleShop_21 ?_
    refine m_iconst (v := 1) hC dX4_isIdleShop_22 (by decide) ?_
    refine m_iadd hC dX4_isIdleShop_23 ?_
    refine m_callVi (n := 2) hC (c_X3_hasSince (by omega) (by omega) hg.trd r4) gX4_isIdleShop_X3_hasSince rfl dX4_isIdleShop_24 rfl rfl (by decide +kernel) ⟨Nat.le_of_ble_eq_true rfl, Nat.le_of_ble_eq_true rfl⟩ rfl (Nat.le_of_ble_eq_true rfl) ⟨Nat.le_of_ble_eq_true rfl, Nat.le_of_ble_eq_true rfl⟩ rfl ?_
    refine m_if_ne (tgt := 34) hC dX4_isIdleShop_27 (by decide) (by have := bI_rng (anyI (fun t => isof S s t && decide (S 0 7 - 5 + 1 ≤ trd S t 4)) (S 3 1).toNat); omega) (fun c_27 => ?_) (fun c_27 => ?_)
    · have hb := bI_1 c_27
      refine m_iconst (v := 0) hC dX4_isIdleShop_34 (by decide) ?_
      refine m_ireti hC hR (Or.inr ⟨rfl, by first | exact Or.inl rfl | exact Or.inr rfl | omega⟩) dX4_isIdleShop_35 ⟨Nat.le_of_ble_eq_true rfl, Nat.le_of_ble_eq_true rfl⟩ ?_ ?_
      · first | (simp [bI, idF, rec4, *]; done) | (simp [bI, idF, rec4, *]; omega)
      · rfl
    · have hb := bI_0 (Decidable.of_not_not c_27)
      refine m_iconst (v := 1) hC dX4_isIdleShop_30 (by decide) ?_
      refine m_goto (tgt := 35) hC dX4_isIdleShop_31 (by decide) ?_
      refine m_ireti hC hR (Or.inr ⟨rfl, by first | exact Or.inl rfl | exact Or.inr rfl | omega⟩) dX4_isIdleShop_35 ⟨Nat.le_of_ble_eq_true rfl, Nat.le_of_ble_eq_true rfl⟩ ?_ ?_
      · first | (simp [bI, idF, rec4, *]; done) | (simp [bI, idF, rec4, *]; omega)
      · rfl
theorem iX4_payFee_4 : ∀ w ∈ wsX40, w ∈ wsX4_payFee := by decide +kernel
theorem fX4_payFee_28 : Cond.fieldLink RX4 28 "Mutualledger" "debts" "LMutualledger$Debts;" ∈ wsX4_payFee := by decide +kernel
theorem fX4_payFee_52 : Cond.fieldLink RX4 52 "Mutualledger" "thousandths" "I" ∈ wsX4_payFee := by decide +kernel
theorem fX4_payFee_35 : Cond.fieldLink RX4 35 "Mutualledger" "givenUp" "LMutualledger$Table;" ∈ wsX4_payFee := by decide +kernel
set_option maxHeartbeats 4000000 in
set_option maxRecDepth 100000 in
theorem c_X4_payFee {g : mG} {S : Mem} {s : Int} (hs : 0 ≤ s ∧ s < 8) (hg : Rg S) (hok : OkD (S 8)) (hfz : Fz (S 8) (S 10)) (l : Launch) : Does l yX4_payFee wsX4_payFee ({ frames := 4, cells := 0, slots := 0, locals := 93 } : Room) g [.ref (g.2.2 0), .int (z32 s)] S (PV (m2 S (pfR S s (S 8, S 14)))) := by
  refine Does.of (cc := cX4_payFee) (maxL := 7) (ret := none) (own := RX4) (by decide) rfl rfl (Nat.le_of_ble_eq_true rfl) ?_
  intro C hC hR
  show MW C g 7 (0, 0) 0 [(0, .ref (g.2.2 0)), (1, .int (z32 s))] [] S
  obtain ⟨r1, r2, r3, r4, r5, r6⟩ := id hg
  have hbl := hok.1.bl (x := s) (by omega)
  have hdu := due_rng (S := S) hok.1 (s := s) (by omega) r3
  have hop := open_rng hok.1 hfz (s := s) (by omega)
  have hp0 := pf0_ok (S := S) (x := (S 8, S 14)) (s := s) (by omega) hok hfz r3
  refine m_aload_n hC dX4_payFee_0 0 rfl ?_
  refine m_getR (o := 0) (j := 2) (a := 6) (CN := RX4) (T := TX4) (N := 9) hC iX4_payFee_4 fX4_payFee_28 rfl dX4_payFee_1 rfl rfl (by decide) rfl ?_
  refine m_iload_n hC dX4_payFee_4 1 rfl ?_
  refine m_callVi (n := 1) hC (c_bal9 (by omega)) gX4_payFee_X0_balanceOf rfl dX4_payFee_5 rfl rfl (by decide +kernel) ⟨Nat.le_of_ble_eq_true rfl, Nat.le_of_ble_eq_true rfl⟩ rfl (Nat.le_of_ble_eq_true rfl) ⟨Nat.le_of_ble_eq_true rfl, Nat.le_of_ble_eq_true rfl⟩ rfl ?_
  refine m_aload_n hC dX4_payFee_8 0 rfl ?_
  refine m_getI (o := 0) (j := 8) (ji := 8) (CN := RX4) (T := TX4) (N := 9) hC iX4_payFee_4 fX4_payFee_52 rfl dX4_payFee_9 rfl rfl (by decide) rfl rfl ?_
  refine m_imul hC dX4_payFee_12 ?_
  refine m_sipush (v := 1000) hC dX4_payFee_13 (by decide) ?_
  refine m_idiv hC dX4_payFee_16 (by omega) (by omega) ?_
  refine m_istore_n hC dX4_payFee_17 (fun z9 => [(2, .int (z32 z9)), (0, .ref (g.2.2 0)), (1, .int (z32 s))]) (by decide) (fun _ => rfl) (fun v2_17 hv2_17 => ?_)
  refine m_iload_n hC dX4_payFee_18 0 rfl ?_
  refine m_aload_n hC dX4_payFee_19 1 rfl ?_
  refine m_getR (o := 0) (j := 2) (a := 6) (CN := RX4) (T := TX4) (N := 9) hC iX4_payFee_4 fX4_payFee_28 rfl dX4_payFee_20 rfl rfl (by decide) rfl ?_
  refine m_iload_n hC dX4_payFee_23 2 rfl ?_
  refine m_callVi (n := 1) hC (c_openTo9 (by omega)) gX4_payFee_X0_openTo rfl dX4_payFee_24 rfl rfl (by decide +kernel) ⟨Nat.le_of_ble_eq_true rfl, Nat.le_of_ble_eq_true rfl⟩ rfl (Nat.le_of_ble_eq_true rfl) ⟨Nat.le_of_ble_eq_true rfl, Nat.le_of_ble_eq_true rfl⟩ rfl ?_
  refine m_min hC (by decide +kernel) (by decide +kernel) (by decide +kernel) (by decide +kernel) dX4_payFee_27 (Nat.le_of_ble_eq_true rfl) (Nat.le_of_ble_eq_true rfl) ⟨Nat.le_of_ble_eq_true rfl, Nat.le_of_ble_eq_true rfl⟩ (by rw [hv2_17]; show -2147483648 ≤ due S (S 8) s ∧ due S (S 8) s < 2147483648; omega) (by omega) ?_
  refine m_istore_n hC dX4_payFee_30 (fun z9 => [(3, .int (z32 z9)), (2, .int (z32 v2_17)), (0, .ref (g.2.2 0)), (1, .int (z32 s))]) (by decide) (fun _ => rfl) (fun v3_30 hv3_30 => ?_)
  refine m_iconst (v := 0) hC dX4_payFee_31 (by decide) ?_
  refine m_istore hC dX4_payFee_32 (fun z9 => [(4, .int (z32 z9)), (3, .int (z32 v3_30)), (2, .int (z32 v2_17)), (0, .ref (g.2.2 0)), (1, .int (z32 s))]) (by decide) (fun _ => rfl) (fun v4_32 hv4_32 => ?_)
  have L34 : ∀ (n34 : Nat) (i : Nat) (t : Int) (r : Int) (S1 : Mem) (x : Fn × Fn × Int), 8 - t < (n34 : Int) → t = 8 - (i : Int) → i ≤ 8 → r = x.2.2 → S1 = m2 S (x.1, x.2.1) → pfOk (S 10) x → pfL (S 10) s i x = pfL (S 10) s 8 (S 8, S 14, mn (due S (S 8) s) (col (S 8) s - col (S 10) s)) → MW C g 7 (0, 0) 34 [(0, .ref (g.2.2 0)), (1, .int (z32 s)), (3, .int (z32 r)), (4, .int (z32 t))] [] S1 := by
    intro n34
    induction n34 with
    | zero => intros; exfalso; omega
    | succ n34 ih34 =>
      intro i t r S1 x hm34 ht hi hr hS1 hx hfin
      have e8 : S1 8 = x.1 := by rw [hS1]; rfl
      have e10 : S1 10 = S 10 := by rw [hS1]; rfl
      have hO : opnOk S1 := opnOk_of (by rw [e8]; exact hx.1.1) (by rw [e8, e10]; exact hx.2.1)
      have hx3 := hx.2.2.1
      have hx4 := hx.2.2.2
      have hgi := gdF_in (S1 8) (S1 10) s 7
      refine m_iload hC dX4_payFee_34 3 rfl ?_
      refine m_bipush (v := 8) hC dX4_payFee_36 (by decide) ?_
      refine m_icmp_ge (tgt := 120) hC dX4_payFee_38 (by decide) (by omega) (by omega) (fun c_38 => ?_) (fun c_38 => ?_)
      · refine m_vretv hC hR dX4_payFee_120 ⟨Nat.le_of_ble_eq_true rfl, Nat.le_of_ble_eq_true rfl⟩ ?_
        first | (rw [hS1, pfR, show (S 8, S 14).1 = S 8 from rfl, show (S 8, S 14).2 = S 14 from rfl, ← hfin, show i = 0 by omega]; rfl) | (rw [hS1, pfR, show (S 8, S 14).1 = S 8 from rfl, show (S 8, S 14).2 = S 14 from rfl, ← hfin, pfL_stop (by omega)])
      · refine m_iload_n hC dX4_payFee_41 2 rfl ?_
        refine m_if_le (tgt := 120) hC dX4_payFee_42 (by decide) (by omega) (fun c_42 => ?_) (fun c_42 => ?_)
        · refine m_vretv hC hR dX4_payFee_120 ⟨Nat.le_of_ble_eq_true rfl, Nat.le_of_ble_eq_true rfl⟩ ?_
          first | (rw [hS1, pfR, show (S 8, S 14).1 = S 8 from rfl, show (S 8, S 14).2 = S 14 from rfl, ← hfin, show i = 0 by omega]; rfl) | (rw [hS1, pfR, show (S 8, S 14).1 = S 8 from rfl, show (S 8, S 14).2 = S 14 from rfl, ← hfin, pfL_stop (by omega)])
        · refine m_aload_n hC dX4_payFee_45 0 rfl ?_
          refine m_getR (o := 0) (j := 2) (a := 6) (CN := RX4) (T := TX4) (N := 9) hC iX4_payFee_4 fX4_payFee_28 rfl dX4_payFee_46 rfl rfl (by decide) rfl ?_
          refine m_iload_n hC dX4_payFee_49 1 rfl ?_
          refine m_callVi (n := 1) hC (c_god9 (by omega) hO) gX4_payFee_X0_greatestOpenDebtorOf rfl dX4_payFee_50 rfl rfl (by decide +kernel) ⟨Nat.le_of_ble_eq_true rfl, Nat.le_of_ble_eq_true rfl⟩ rfl (Nat.le_of_ble_eq_true rfl) ⟨Nat.le_of_ble_eq_true rfl, Nat.le_of_ble_eq_true rfl⟩ rfl ?_
          refine m_istore hC dX4_payFee_53 (fun z9 => [(5, .int (z32 z9)), (0, .ref (g.2.2 0)), (1, .int (z32 s)), (3, .int (z32 r)), (4, .int (z32 t))]) (by decide) (fun _ => rfl) (fun v5_53 hv5_53 => ?_)
          refine m_iload_n hC dX4_payFee_55 3 rfl ?_
          refine m_aload_n hC dX4_payFee_56 1 rfl ?_
          refine m_getR (o := 0) (j := 2) (a := 6) (CN := RX4) (T := TX4) (N := 9) hC iX4_payFee_4 fX4_payFee_28 rfl dX4_payFee_57 rfl rfl (by decide) rfl ?_
          refine m_iload hC dX4_payFee_60 0 rfl ?_
          refine m_iload_n hC dX4_payFee_62 2 rfl ?_
          refine m_callVi (n := 2) hC (c_open9 (by omega) (by omega)) gX4_payFee_X0_open rfl dX4_payFee_63 rfl rfl (by decide +kernel) ⟨Nat.le_of_ble_eq_true rfl, Nat.le_of_ble_eq_true rfl⟩ rfl (Nat.le_of_ble_eq_true rfl) ⟨Nat.le_of_ble_eq_true rfl, Nat.le_of_ble_eq_true rfl⟩ rfl ?_
          refine m_min hC (by decide +kernel) (by decide +kernel) (by decide +kernel) (by decide +kernel) dX4_payFee_66 (Nat.le_of_ble_eq_true rfl) (Nat.le_of_ble_eq_true rfl) ⟨Nat.le_of_ble_eq_true rfl, Nat.le_of_ble_eq_true rfl⟩ (by omega) (by have h9 := hO v5_53 s; rw [opn_ix (by omega) (by omega)] at h9; exact h9) ?_
          refine m_istore hC dX4_payFee_69 (fun z9 => [(6, .int (z32 z9)), (5, .int (z32 v5_53)), (0, .ref (g.2.2 0)), (1, .int (z32 s)), (3, .int (z32 r)), (4, .int (z32 t))]) (by decide) (fun _ => rfl) (fun v6_69 hv6_69 => ?_)
          refine m_aload_n hC dX4_payFee_71 2 rfl ?_
          refine m_getR (o := 0) (j := 2) (a := 6) (CN := RX4) (T := TX4) (N := 9) hC iX4_payFee_4 fX4_payFee_28 rfl dX4_payFee_72 rfl rfl (by decide) rfl ?_
          refine m_iload hC dX4_payFee_75 1 rfl ?_
          refine m_iload_n hC dX4_payFee_77 3 rfl ?_
          refine m_iload hC dX4_payFee_78 0 rfl ?_
          refine m_ineg hC dX4_payFee_80 ?_
          refine m_callVv (n := 3) hC (c_more9 (by omega) (by omega)) gX4_payFee_X0_more rfl dX4_payFee_81 rfl rfl (by decide +kernel) ⟨Nat.le_of_ble_eq_true rfl, Nat.le_of_ble_eq_true rfl⟩ rfl (Nat.le_of_ble_eq_true rfl) ⟨Nat.le_of_ble_eq_true rfl, Nat.le_of_ble_eq_true rfl⟩ rfl ?_
          refine m_aload_n hC dX4_payFee_84 2 rfl ?_
          refine m_getR (o := 0) (j := 2) (a := 6) (CN := RX4) (T := TX4) (N := 9) hC iX4_payFee_4 fX4_payFee_28 rfl dX4_payFee_85 rfl rfl (by decide) rfl ?_
          refine m_iload hC dX4_payFee_88 1 rfl ?_
          refine m_bipush (v := 8) hC dX4_payFee_90 (by decide) ?_
          refine m_iload hC dX4_payFee_92 0 rfl ?_
          refine m_callVv (n := 3) hC (c_more9 (by omega) (by omega)) gX4_payFee_X0_more rfl dX4_payFee_94 rfl rfl (by decide +kernel) ⟨Nat.le_of_ble_eq_true rfl, Nat.le_of_ble_eq_true rfl⟩ rfl (Nat.le_of_ble_eq_true rfl) ⟨Nat.le_of_ble_eq_true rfl, Nat.le_of_ble_eq_true rfl⟩ rfl ?_
          refine m_aload_n hC dX4_payFee_97 2 rfl ?_
          refine m_getR (o := 0) (j := 4) (a := 13) (CN := RX4) (T := TX4) (N := 9) hC iX4_payFee_4 fX4_payFee_35 rfl dX4_payFee_98 rfl rfl (by decide) rfl ?_
          refine m_iload_n hC dX4_payFee_101 3 rfl ?_
          refine m_bipush (v := 8) hC dX4_payFee_102 (by decide) ?_
          refine m_iload hC dX4_payFee_104 0 rfl ?_
          refine m_callVv (n := 3) hC (c_add14 (by omega) (by omega)) gX4_payFee_X2_add rfl dX4_payFee_106 rfl rfl (by decide +kernel) ⟨Nat.le_of_ble_eq_true rfl, Nat.le_of_ble_eq_true rfl⟩ rfl (Nat.le_of_ble_eq_true rfl) ⟨Nat.le_of_ble_eq_true rfl, Nat.le_of_ble_eq_true rfl⟩ rfl ?_
          refine m_iload_n hC dX4_payFee_109 4 rfl ?_
          refine m_iload hC dX4_payFee_110 0 rfl ?_
          refine m_isub hC dX4_payFee_112 ?_
          refine m_istore_n hC dX4_payFee_113 (fun z9 => [(3, .int (z32 z9)), (6, .int (z32 v6_69)), (5, .int (z32 v5_53)), (0, .ref (g.2.2 0)), (1, .int (z32 s)), (4, .int (z32 t))]) (by decide) (fun _ => rfl) (fun v3_113 hv3_113 => ?_)
          refine m_iinc hC dX4_payFee_114 5 rfl (fun z9 => [(4, .int (z32 z9)), (3, .int (z32 v3_113)), (6, .int (z32 v6_69)), (5, .int (z32 v5_53)), (0, .ref (g.2.2 0)), (1, .int (z32 s))]) (by decide) (fun _ => rfl) (fun v4_114 hv4_114 => ?_)
          refine m_goto (tgt := 34) hC dX4_payFee_117 (by decide) ?_
          refine m_locals [4, 5, 1, 0] rfl ?_
          exact ih34 (i - 1) v4_114 v3_113 _ (pfF (S 10) s x) (by omega) (by omega) (by omega) (by rw [hv3_113, hv6_69, hv5_53, hr, e8, e10]; rfl) (by rw [hv6_69, hv5_53, e8, e10, hr]; subst hS1; exact m2_pf s x) (pfF_ok hs hx (by omega)) (by rw [← hfin]; obtain ⟨j, rfl⟩ : ∃ j, i = j + 1 := ⟨i - 1, by omega⟩; rw [Nat.add_sub_cancel, pfL, if_pos (by omega)])
  refine m_locals [3, 4, 1, 0] rfl ?_
  exact L34 9 8 v4_32 v3_30 _ (S 8, S 14, mn (due S (S 8) s) (col (S 8) s - col (S 10) s)) (by omega) (by omega) (by omega) (by rw [hv3_30, hv2_17]; rfl) (by show S = mput (mput S 8 (S 8)) 14 (S 14); rw [mput_self, mput_self]) (hp0) (rfl)
set_option maxHeartbeats 4000000 in
set_option maxRecDepth 100000 in
theorem c_X4_payFees {g : mG} {S : Mem} (hg : Rg S) (hok : OkD (S 8)) (hfz : Fz (S 8) (S 10)) (l : Launch) : Does l yX4_payFees wsX4_payFees ({ frames := 6, cells := 0, slots := 0, locals := 134 } : Room) g [.ref (g.2.2 0)] S (PV (m2 S (fsA S (S 8, S 14) 8))) := by
  refine Does.of (cc := cX4_payFees) (maxL := 2) (ret := none) (own := RX4) (by decide) rfl rfl (Nat.le_of_ble_eq_true rfl) ?_
  intro C hC hR
  show MW C g 2 (0, 0) 0 [(0, .ref (g.2.2 0))] [] S
  obtain ⟨r1, r2, r3, r4, r5, r6⟩ := id hg
  refine m_iconst (v := 0) hC dX4_payFees_0 (by decide) ?_
  refine m_istore_n hC dX4_payFees_1 (fun z9 => [(1, .int (z32 z9)), (0, .ref (g.2.2 0))]) (by decide) (fun _ => rfl) (fun v1_1 hv1_1 => ?_)
  have L2 : ∀ (n2 : Nat) (i : Nat) (x : Int) (S1 : Mem), 8 - x < (n2 : Int) → x = (i : Int) → i ≤ 8 → S1 = m2 S (fsA S (S 8, S 14) i) → MW C g 2 (0, 0) 2 [(0, .ref (g.2.2 0)), (1, .int (z32 x))] [] S1 := by
    intro n2
    induction n2 with
    | zero => intros; exfalso; omega
    | succ n2 ih2 =>
      intro i x S1 hm2 hx hi hS1
      have hxo := fsA_ok (S := S) (x := (S 8, S 14)) r3 ⟨hok, hfz⟩ hi
      have e8 : S1 8 = (fsA S (S 8, S 14) i).1 := by rw [hS1]; rfl
      have e10 : S1 10 = S 10 := by rw [hS1]; rfl
      have e14 : S1 14 = (fsA S (S 8, S 14) i).2 := by rw [hS1]; rfl
      have hg1 : Rg S1 := by rw [hS1]; exact hg
      have hid : idF S1 (S1 8) x = idF S (fsA S (S 8, S 14) i).1 x := by rw [e8, hS1]; rfl
      refine m_iload_n hC dX4_payFees_2 1 rfl ?_
      refine m_bipush (v := 8) hC dX4_payFees_3 (by decide) ?_
      refine m_icmp_ge (tgt := 27) hC dX4_payFees_5 (by decide) (by omega) (by omega) (fun c_5 => ?_) (fun c_5 => ?_)
      · refine m_vretv hC hR dX4_payFees_27 ⟨Nat.le_of_ble_eq_true rfl, Nat.le_of_ble_eq_true rfl⟩ ?_
        rw [hS1, show i = 8 by omega]
      · refine m_aload_n hC dX4_payFees_8 0 rfl ?_
        refine m_iload_n hC dX4_payFees_9 1 rfl ?_
        refine m_callVi (n := 1) hC (c_X4_isIdleShop (by omega) hg1 (by rw [e8]; exact hxo.1.1)) gX4_payFees_X4_isIdleShop rfl dX4_payFees_10 rfl rfl (by decide +kernel) ⟨Nat.le_of_ble_eq_true rfl, Nat.le_of_ble_eq_true rfl⟩ rfl (Nat.le_of_ble_eq_true rfl) ⟨Nat.le_of_ble_eq_true rfl, Nat.le_of_ble_eq_true rfl⟩ rfl ?_
        refine m_if_eq (tgt := 21) hC dX4_payFees_13 (by decide) (by have := bI_rng (idF S1 (S1 8) x); omega) (fun c_13 => ?_) (fun c_13 => ?_)
        · have hb := bI_0 c_13
          refine m_iinc hC dX4_payFees_21 1 rfl (fun z9 => [(1, .int (z32 z9)), (0, .ref (g.2.2 0))]) (by decide) (fun _ => rfl) (fun v1_21 hv1_21 => ?_)
          refine m_goto (tgt := 2) hC dX4_payFees_24 (by decide) ?_
          refine m_locals [1, 0] rfl ?_
          exact ih2 (i + 1) v1_21 _ (by omega) (by omega) (by omega) (by rw [show fsA S (S 8, S 14) (i + 1) = fsF S (i : Int) (fsA S (S 8, S 14) i) from rfl, ← hx]; unfold fsF; first | (rw [if_neg (by rw [← hid, hb]; decide)]; exact hS1) | (rw [if_pos (by rw [← hid, hb])]; rw [e8, e14]; subst hS1; exact m2_m2 S _ _))
        · have hb := bI_1 c_13
          refine m_aload_n hC dX4_payFees_16 0 rfl ?_
          refine m_iload_n hC dX4_payFees_17 1 rfl ?_
          refine m_callVv (n := 1) hC (c_X4_payFee (by omega) hg1 (by rw [e8]; exact hxo.1) (by rw [e8, e10]; exact hxo.2)) gX4_payFees_X4_payFee rfl dX4_payFees_18 rfl rfl (by decide +kernel) ⟨Nat.le_of_ble_eq_true rfl, Nat.le_of_ble_eq_true rfl⟩ rfl (Nat.le_of_ble_eq_true rfl) ⟨Nat.le_of_ble_eq_true rfl, Nat.le_of_ble_eq_true rfl⟩ rfl ?_
          refine m_iinc hC dX4_payFees_21 1 rfl (fun z9 => [(1, .int (z32 z9)), (0, .ref (g.2.2 0))]) (by decide) (fun _ => rfl) (fun v1_21 hv1_21 => ?_)
          refine m_goto (tgt := 2) hC dX4_payFees_24 (by decide) ?_
          refine m_locals [1, 0] rfl ?_
          exact ih2 (i + 1) v1_21 _ (by omega) (by omega) (by omega) (by rw [show fsA S (S 8, S 14) (i + 1) = fsF S (i : Int) (fsA S (S 8, S 14) i) from rfl, ← hx]; unfold fsF; first | (rw [if_neg (by rw [← hid, hb]; decide)]; exact hS1) | (rw [if_pos (by rw [← hid, hb])]; rw [e8, e14]; subst hS1; exact m2_m2 S _ _))
  refine m_locals [1, 0] rfl ?_
  exact L2 9 0 v1_1 _ (by omega) (by omega) (by omega) (by show S = mput (mput S 8 (S 8)) 14 (S 14); rw [mput_self, mput_self])
