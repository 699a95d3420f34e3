/-! ===== rings: the search ===== -/
theorem c_get16 {g : mG} {S : Mem} {c k : Int} (hc : 0 ≤ c ∧ c < 57) (hk : 0 ≤ k ∧ k < 7) (l : Launch) : Does l yX2_get wsX2_get ({ frames := 1, cells := 0, slots := 0, locals := 23 } : Room) g [.ref (g.2.2 16), .int (z32 c), .int (z32 k)] S (PI (S 17 (rix c k)) S) := by
  rw [← tg_rix (f := S 17) hc hk]
  exact c_X2_get T16 (by omega) (by omega) l
theorem c_set16 {g : mG} {S : Mem} {v : Int} {c k : Int} (hc : 0 ≤ c ∧ c < 57) (hk : 0 ≤ k ∧ k < 7) (l : Launch) : Does l yX2_set wsX2_set ({ frames := 1, cells := 0, slots := 0, locals := 23 } : Room) g [.ref (g.2.2 16), .int (z32 c), .int (z32 k), .int (z32 v)] S (PV (mput S 17 (up (S 17) (rix c k) v))) := by
  rw [← ts_rix hc hk]
  exact c_X2_set T16 (by omega) (by omega) l
theorem iX1_size_1 : ∀ w ∈ wsX10, w ∈ wsX1_size := by decide +kernel
theorem fX1_size_20 : Cond.fieldLink RX1 20 "Mutualledger$Rings" "count" "I" ∈ wsX1_size := by decide +kernel
set_option maxHeartbeats 4000000 in
set_option maxRecDepth 100000 in
theorem c_X1_size {g : mG} {S : Mem} (l : Launch) : Does l yX1_size wsX1_size ({ frames := 0, cells := 0, slots := 0, locals := 0 } : Room) g [.ref (g.2.2 15)] S (PI (S 15 1) S) := by
  refine Does.of (cc := cX1_size) (maxL := 1) (ret := (some .int)) (own := RX1) (by decide) rfl rfl (Nat.le_of_ble_eq_true rfl) ?_
  intro C hC hR
  show MW C g 1 (0, 0) 0 [(0, .ref (g.2.2 15))] [] S
  refine m_aload_n hC dX1_size_0 0 rfl ?_
  refine m_getI (o := 15) (j := 1) (ji := 1) (CN := RX1) (T := TX1) (N := 2) hC iX1_size_1 fX1_size_20 rfl dX1_size_1 rfl rfl (by decide) rfl rfl ?_
  refine m_ireti hC hR (Or.inl rfl) dX1_size_4 ⟨Nat.le_of_ble_eq_true rfl, Nat.le_of_ble_eq_true rfl⟩ ?_ ?_
  · first | rfl | omega
  · rfl
theorem iX1_of_1 : ∀ w ∈ wsX10, w ∈ wsX1_of := by decide +kernel
theorem fX1_of_16 : Cond.fieldLink RX1 16 "Mutualledger$Rings" "rows" "LMutualledger$Table;" ∈ wsX1_of := by decide +kernel
set_option maxHeartbeats 4000000 in
set_option maxRecDepth 100000 in
theorem c_X1_of {g : mG} {S : Mem} {r w : Int} (hr : -2147483648 ≤ r ∧ r < 2147483648) (hw : -2147483648 ≤ w ∧ w < 2147483648) (l : Launch) : Does l yX1_of wsX1_of ({ frames := 2, cells := 0, slots := 0, locals := 46 } : Room) g [.ref (g.2.2 15), .int (z32 r), .int (z32 w)] S (PI (tg 57 7 (S 17) r w) S) := by
  refine Does.of (cc := cX1_of) (maxL := 3) (ret := (some .int)) (own := RX1) (by decide) rfl rfl (Nat.le_of_ble_eq_true rfl) ?_
  intro C hC hR
  show MW C g 3 (0, 0) 0 [(0, .ref (g.2.2 15)), (1, .int (z32 r)), (2, .int (z32 w))] [] S
  refine m_aload_n hC dX1_of_0 0 rfl ?_
  refine m_getR (o := 15) (j := 0) (a := 16) (CN := RX1) (T := TX1) (N := 2) hC iX1_of_1 fX1_of_16 rfl dX1_of_1 rfl rfl (by decide) rfl ?_
  refine m_iload_n hC dX1_of_4 1 rfl ?_
  refine m_iload_n hC dX1_of_5 2 rfl ?_
  refine m_callVi (n := 2) hC (c_X2_get T16 hr hw) gX1_of_X2_get rfl dX1_of_6 rfl rfl (by decide +kernel) ⟨Nat.le_of_ble_eq_true rfl, Nat.le_of_ble_eq_true rfl⟩ rfl (Nat.le_of_ble_eq_true rfl) ⟨Nat.le_of_ble_eq_true rfl, Nat.le_of_ble_eq_true rfl⟩ rfl ?_
  refine m_ireti hC hR (Or.inl rfl) dX1_of_9 ⟨Nat.le_of_ble_eq_true rfl, Nat.le_of_ble_eq_true rfl⟩ ?_ ?_
  · first | rfl | omega
  · rfl
theorem iX1_shopAt_1 : ∀ w ∈ wsX10, w ∈ wsX1_shopAt := by decide +kernel
theorem fX1_shopAt_16 : Cond.fieldLink RX1 16 "Mutualledger$Rings" "rows" "LMutualledger$Table;" ∈ wsX1_shopAt := by decide +kernel
theorem fX1_shopAt_20 : Cond.fieldLink RX1 20 "Mutualledger$Rings" "count" "I" ∈ wsX1_shopAt := by decide +kernel
set_option maxHeartbeats 4000000 in
set_option maxRecDepth 100000 in
theorem c_X1_shopAt {g : mG} {S : Mem} (hc : 0 ≤ S 15 1 ∧ S 15 1 < 57) {p : Int} (hp : 0 ≤ p ∧ p < 5) (l : Launch) : Does l yX1_shopAt wsX1_shopAt ({ frames := 2, cells := 0, slots := 0, locals := 46 } : Room) g [.ref (g.2.2 15), .int (z32 p)] S (PI (pth S p) S) := by
  refine Does.of (cc := cX1_shopAt) (maxL := 2) (ret := (some .int)) (own := RX1) (by decide) rfl rfl (Nat.le_of_ble_eq_true rfl) ?_
  intro C hC hR
  show MW C g 2 (0, 0) 0 [(0, .ref (g.2.2 15)), (1, .int (z32 p))] [] S
  refine m_aload_n hC dX1_shopAt_0 0 rfl ?_
  refine m_getR (o := 15) (j := 0) (a := 16) (CN := RX1) (T := TX1) (N := 2) hC iX1_shopAt_1 fX1_shopAt_16 rfl dX1_shopAt_1 rfl rfl (by decide) rfl ?_
  refine m_aload_n hC dX1_shopAt_4 0 rfl ?_
  refine m_getI (o := 15) (j := 1) (ji := 1) (CN := RX1) (T := TX1) (N := 2) hC iX1_shopAt_1 fX1_shopAt_20 rfl dX1_shopAt_5 rfl rfl (by decide) rfl rfl ?_
  refine m_iconst (v := 2) hC dX1_shopAt_8 (by decide) ?_
  refine m_iload_n hC dX1_shopAt_9 1 rfl ?_
  refine m_iadd hC dX1_shopAt_10 ?_
  refine m_callVi (n := 2) hC (c_get16 hc (by omega)) gX1_shopAt_X2_get rfl dX1_shopAt_11 rfl rfl (by decide +kernel) ⟨Nat.le_of_ble_eq_true rfl, Nat.le_of_ble_eq_true rfl⟩ rfl (Nat.le_of_ble_eq_true rfl) ⟨Nat.le_of_ble_eq_true rfl, Nat.le_of_ble_eq_true rfl⟩ rfl ?_
  refine m_ireti hC hR (Or.inl rfl) dX1_shopAt_14 ⟨Nat.le_of_ble_eq_true rfl, Nat.le_of_ble_eq_true rfl⟩ ?_ ?_
  · first | rfl | omega
  · rfl
theorem iX1_setShopAt_1 : ∀ w ∈ wsX10, w ∈ wsX1_setShopAt := by decide +kernel
theorem fX1_setShopAt_16 : Cond.fieldLink RX1 16 "Mutualledger$Rings" "rows" "LMutualledger$Table;" ∈ wsX1_setShopAt := by decide +kernel
theorem fX1_setShopAt_20 : Cond.fieldLink RX1 20 "Mutualledger$Rings" "count" "I" ∈ wsX1_setShopAt := by decide +kernel
set_option maxHeartbeats 4000000 in
set_option maxRecDepth 100000 in
theorem c_X1_setShopAt {g : mG} {S : Mem} (hc : 0 ≤ S 15 1 ∧ S 15 1 < 57) {p v : Int} (hp : 0 ≤ p ∧ p < 5) (l : Launch) : Does l yX1_setShopAt wsX1_setShopAt ({ frames := 2, cells := 0, slots := 0, locals := 47 } : Room) g [.ref (g.2.2 15), .int (z32 p), .int (z32 v)] S (PV (put17 S (2 + p) v)) := by
  refine Does.of (cc := cX1_setShopAt) (maxL := 3) (ret := none) (own := RX1) (by decide) rfl rfl (Nat.le_of_ble_eq_true rfl) ?_
  intro C hC hR
  show MW C g 3 (0, 0) 0 [(0, .ref (g.2.2 15)), (1, .int (z32 p)), (2, .int (z32 v))] [] S
  refine m_aload_n hC dX1_setShopAt_0 0 rfl ?_
  refine m_getR (o := 15) (j := 0) (a := 16) (CN := RX1) (T := TX1) (N := 2) hC iX1_setShopAt_1 fX1_setShopAt_16 rfl dX1_setShopAt_1 rfl rfl (by decide) rfl ?_
  refine m_aload_n hC dX1_setShopAt_4 0 rfl ?_
  refine m_getI (o := 15) (j := 1) (ji := 1) (CN := RX1) (T := TX1) (N := 2) hC iX1_setShopAt_1 fX1_setShopAt_20 rfl dX1_setShopAt_5 rfl rfl (by decide) rfl rfl ?_
  refine m_iconst (v := 2) hC dX1_setShopAt_8 (by decide) ?_
  refine m_iload_n hC dX1_setShopAt_9 1 rfl ?_
  refine m_iadd hC dX1_setShopAt_10 ?_
  refine m_iload_n hC dX1_setShopAt_11 2 rfl ?_
  refine m_callVv (n := 3) hC (c_set16 hc (by omega)) gX1_setShopAt_X2_set rfl dX1_setShopAt_12 rfl rfl (by decide +kernel) ⟨Nat.le_of_ble_eq_true rfl, Nat.le_of_ble_eq_true rfl⟩ rfl (Nat.le_of_ble_eq_true rfl) ⟨Nat.le_of_ble_eq_true rfl, Nat.le_of_ble_eq_true rfl⟩ rfl ?_
  refine m_vretv hC hR dX1_setShopAt_15 ⟨Nat.le_of_ble_eq_true rfl, Nat.le_of_ble_eq_true rfl⟩ ?_
  rfl
theorem iX1_isSet_1 : ∀ w ∈ wsX10, w ∈ wsX1_isSet := by decide +kernel
theorem fX1_isSet_16 : Cond.fieldLink RX1 16 "Mutualledger$Rings" "rows" "LMutualledger$Table;" ∈ wsX1_isSet := by decide +kernel
theorem fX1_isSet_20 : Cond.fieldLink RX1 20 "Mutualledger$Rings" "count" "I" ∈ wsX1_isSet := by decide +kernel
set_option maxHeartbeats 4000000 in
set_option maxRecDepth 100000 in
theorem c_X1_isSet {g : mG} {S : Mem} (hc : 0 ≤ S 15 1 ∧ S 15 1 < 57) {n : Nat} {y len : Int} (hl : len = n) (hn : n ≤ 5) (hy : -2147483648 ≤ y ∧ y < 2147483648) (hr : ∀ k : Int, 0 ≤ k → k < n → -10 ≤ pth S k ∧ pth S k ≤ 10) (l : Launch) : Does l yX1_isSet wsX1_isSet ({ frames := 2, cells := 0, slots := 0, locals := 46 } : Room) g [.ref (g.2.2 15), .int (z32 y), .int (z32 len)] S (PI (bI (anyI (fun k => decide (pth S k = y)) n)) S) := by
  refine Does.of (cc := cX1_isSet) (maxL := 4) (ret := (some .boolean)) (own := RX1) (by decide) rfl rfl (Nat.le_of_ble_eq_true rfl) ?_
  intro C hC hR
  show MW C g 4 (0, 0) 0 [(0, .ref (g.2.2 15)), (1, .int (z32 y)), (2, .int (z32 len))] [] S
  refine m_iconst (v := 0) hC dX1_isSet_0 (by decide) ?_
  refine m_istore_n hC dX1_isSet_1 (fun z9 => [(3, .int (z32 z9)), (0, .ref (g.2.2 15)), (1, .int (z32 y)), (2, .int (z32 len))]) (by decide) (fun _ => rfl) (fun v3_1 hv3_1 => ?_)
  have L2 : ∀ (n2 : Nat) (i : Nat) (x : Int), len - x < (n2 : Int) → x = (i : Int) → i ≤ n → anyI (fun k => decide (pth S k = y)) i = false → MW C g 4 (0, 0) 2 [(0, .ref (g.2.2 15)), (1, .int (z32 y)), (2, .int (z32 len)), (3, .int (z32 x))] [] S := by
    intro n2
    induction n2 with
    | zero => intros; exfalso; omega
    | succ n2 ih2 =>
      intro i x hm2 hx hi hno
      refine m_iload_n hC dX1_isSet_2 3 rfl ?_
      refine m_iload_n hC dX1_isSet_3 2 rfl ?_
      refine m_icmp_ge (tgt := 33) hC dX1_isSet_4 (by decide) (by omega) (by omega) (fun c_4 => ?_) (fun c_4 => ?_)
      · refine m_iconst (v := 0) hC dX1_isSet_33 (by decide) ?_
        refine m_ireti hC hR (Or.inr ⟨rfl, Or.inl rfl⟩) dX1_isSet_34 ⟨Nat.le_of_ble_eq_true rfl, Nat.le_of_ble_eq_true rfl⟩ ?_ ?_
        · rw [show n = i by omega, hno]; rfl
        · rfl
      · refine m_aload_n hC dX1_isSet_7 0 rfl ?_
        refine m_getR (o := 15) (j := 0) (a := 16) (CN := RX1) (T := TX1) (N := 2) hC iX1_isSet_1 fX1_isSet_16 rfl dX1_isSet_8 rfl rfl (by decide) rfl ?_
        refine m_aload_n hC dX1_isSet_11 0 rfl ?_
        refine m_getI (o := 15) (j := 1) (ji := 1) (CN := RX1) (T := TX1) (N := 2) hC iX1_isSet_1 fX1_isSet_20 rfl dX1_isSet_12 rfl rfl (by decide) rfl rfl ?_
        refine m_iconst (v := 2) hC dX1_isSet_15 (by decide) ?_
        refine m_iload_n hC dX1_isSet_16 3 rfl ?_
        refine m_iadd hC dX1_isSet_17 ?_
        refine m_callVi (n := 2) hC (c_get16 hc (by omega)) gX1_isSet_X2_get rfl dX1_isSet_18 rfl rfl (by decide +kernel) ⟨Nat.le_of_ble_eq_true rfl, Nat.le_of_ble_eq_true rfl⟩ rfl (Nat.le_of_ble_eq_true rfl) ⟨Nat.le_of_ble_eq_true rfl, Nat.le_of_ble_eq_true rfl⟩ rfl ?_
        refine m_iload_n hC dX1_isSet_21 1 rfl ?_
        refine m_icmp_ne (tgt := 27) hC dX1_isSet_22 (by decide) (by have h9 := hr x (by omega) (by omega); unfold pth at h9; omega) (by omega) (fun c_22 => ?_) (fun c_22 => ?_)
        · refine m_iinc hC dX1_isSet_27 3 rfl (fun z9 => [(3, .int (z32 z9)), (0, .ref (g.2.2 15)), (1, .int (z32 y)), (2, .int (z32 len))]) (by decide) (fun _ => rfl) (fun v3_27 hv3_27 => ?_)
          refine m_goto (tgt := 2) hC dX1_isSet_30 (by decide) ?_
          refine m_locals [1, 2, 3, 0] rfl ?_
          exact ih2 (i + 1) v3_27 (by omega) (by omega) (by omega) (by rw [anyI, hno, Bool.false_or, ← hx]; exact decide_eq_false c_22)
        · refine m_iconst (v := 1) hC dX1_isSet_25 (by decide) ?_
          refine m_ireti hC hR (Or.inr ⟨rfl, Or.inr rfl⟩) dX1_isSet_26 ⟨Nat.le_of_ble_eq_true rfl, Nat.le_of_ble_eq_true rfl⟩ ?_ ?_
          · rw [anyI_yes (i := i) (by rw [← hx]; exact decide_eq_true (Decidable.of_not_not c_22)) (by omega)]; rfl
          · rfl
  refine m_locals [1, 2, 3, 0] rfl ?_
  exact L2 6 0 v3_1 (by omega) (by omega) (by omega) (rfl)
set_option maxHeartbeats 4000000 in
set_option maxRecDepth 100000 in
theorem c_closes_0 {g : mG} {S : Mem} (hc : 0 ≤ S 15 1 ∧ S 15 1 < 57) {n : Nat} {z len : Int} (hl : len = n) (hz : z = (n : Int) + 0) (hn : 1 ≤ n) (h5 : n + 0 ≤ 5) (hp : ∀ k : Int, 0 ≤ k → k < n → 0 ≤ pth S k ∧ pth S k < 8) (hok : Ok (S 8)) (hf : Fz (S 8) (S 10)) (l : Launch) : Does l yX1_closes wsX1_closes ({ frames := 3, cells := 0, slots := 0, locals := 68 } : Room) g [.ref (g.2.2 15), .ref (g.2.2 6), .int (z32 z), .int (z32 len)] S (PIx (fun v S' => clP S n 0 v S')) := by
  refine Does.of (cc := cX1_closes) (maxL := 7) (ret := (some .boolean)) (own := RX1) (by decide) rfl rfl (Nat.le_of_ble_eq_true rfl) ?_
  intro C hC hR
  show MW C g 7 (0, 0) 0 [(0, .ref (g.2.2 15)), (1, .ref (g.2.2 6)), (2, .int (z32 z)), (3, .int (z32 len))] [] S
  have hO := opnOk_of hok hf
  have hp0 := hp 0 (by omega) (by omega)
  have hpl := hp (len - 1) (by omega) (by omega)
  refine m_aload_n hC dX1_closes_0 0 rfl ?_
  refine m_iconst (v := 0) hC dX1_closes_1 (by decide) ?_
  refine m_callVi (n := 1) hC (c_X1_shopAt hc (by omega)) gX1_closes_X1_shopAt rfl dX1_closes_2 rfl rfl (by decide +kernel) ⟨Nat.le_of_ble_eq_true rfl, Nat.le_of_ble_eq_true rfl⟩ rfl (Nat.le_of_ble_eq_true rfl) ⟨Nat.le_of_ble_eq_true rfl, Nat.le_of_ble_eq_true rfl⟩ rfl ?_
  refine m_istore hC dX1_closes_5 (fun z9 => [(4, .int (z32 z9)), (0, .ref (g.2.2 15)), (1, .ref (g.2.2 6)), (2, .int (z32 z)), (3, .int (z32 len))]) (by decide) (fun _ => rfl) (fun v4_5 hv4_5 => ?_)
  refine m_aload_n hC dX1_closes_7 1 rfl ?_
  refine m_iload_n hC dX1_closes_8 4 rfl ?_
  refine m_iconst (v := 1) hC dX1_closes_9 (by decide) ?_
  refine m_isub hC dX1_closes_10 ?_
  refine m_callVi (n := 1) hC (c_X1_shopAt hc (by omega)) gX1_closes_X1_shopAt rfl dX1_closes_11 rfl rfl (by decide +kernel) ⟨Nat.le_of_ble_eq_true rfl, Nat.le_of_ble_eq_true rfl⟩ rfl (Nat.le_of_ble_eq_true rfl) ⟨Nat.le_of_ble_eq_true rfl, Nat.le_of_ble_eq_true rfl⟩ rfl ?_
  refine m_istore hC dX1_closes_14 (fun z9 => [(5, .int (z32 z9)), (4, .int (z32 v4_5)), (0, .ref (g.2.2 15)), (1, .ref (g.2.2 6)), (2, .int (z32 z)), (3, .int (z32 len))]) (by decide) (fun _ => rfl) (fun v5_14 hv5_14 => ?_)
  refine m_iload_n hC dX1_closes_16 5 rfl ?_
  refine m_iload_n hC dX1_closes_17 4 rfl ?_
  refine m_icmp_ge (tgt := 26) hC dX1_closes_18 (by decide) (by omega) (by omega) (fun c_18 => ?_) (fun c_18 => ?_)
  · refine m_aload_n hC dX1_closes_26 3 rfl ?_
    refine m_iload hC dX1_closes_27 0 rfl ?_
    refine m_iload hC dX1_closes_29 1 rfl ?_
    refine m_callVi (n := 2) hC (c_open9 (by omega) (by omega)) gX1_closes_X0_open rfl dX1_closes_31 rfl rfl (by decide +kernel) ⟨Nat.le_of_ble_eq_true rfl, Nat.le_of_ble_eq_true rfl⟩ rfl (Nat.le_of_ble_eq_true rfl) ⟨Nat.le_of_ble_eq_true rfl, Nat.le_of_ble_eq_true rfl⟩ rfl ?_
    refine m_if_le (tgt := 41) hC dX1_closes_34 (by decide) (by have h9 := hO v5_14 v4_5; rw [opn_ix (by omega) (by omega)] at h9; exact h9) (fun c_34 => ?_) (fun c_34 => ?_)
    · refine m_iconst (v := 0) hC dX1_closes_41 (by decide) ?_
      refine m_iretx hC hR (Or.inr ⟨rfl, by first | exact Or.inl rfl | exact Or.inr rfl | omega⟩) dX1_closes_42 ⟨Nat.le_of_ble_eq_true rfl, Nat.le_of_ble_eq_true rfl⟩ ?_
      exact clP_0 hn (by rw [← hl, ← hv5_14, ← hv4_5]; first | rw [if_pos (by omega)] | rw [if_neg (by omega)])
    · refine m_iconst (v := 1) hC dX1_closes_37 (by decide) ?_
      refine m_goto (tgt := 42) hC dX1_closes_38 (by decide) ?_
      refine m_iretx hC hR (Or.inr ⟨rfl, by first | exact Or.inl rfl | exact Or.inr rfl | omega⟩) dX1_closes_42 ⟨Nat.le_of_ble_eq_true rfl, Nat.le_of_ble_eq_true rfl⟩ ?_
      exact clP_0 hn (by rw [← hl, ← hv5_14, ← hv4_5]; first | rw [if_pos (by omega)] | rw [if_neg (by omega)])
  · exfalso; omega
set_option maxHeartbeats 4000000 in
set_option maxRecDepth 100000 in
theorem c_closes_1 {g : mG} {S : Mem} (hc : 0 ≤ S 15 1 ∧ S 15 1 < 57) {n : Nat} {z len : Int} (hl : len = n) (hz : z = (n : Int) + 1) (hn : 1 ≤ n) (h5 : n + 1 ≤ 5) (hp : ∀ k : Int, 0 ≤ k → k < n → 0 ≤ pth S k ∧ pth S k < 8) (hok : Ok (S 8)) (hf : Fz (S 8) (S 10)) (l : Launch) : Does l yX1_closes wsX1_closes ({ frames := 4, cells := 0, slots := 0, locals := 94 } : Room) g [.ref (g.2.2 15), .ref (g.2.2 6), .int (z32 z), .int (z32 len)] S (PIx (fun v S' => clP S n 1 v S')) := by
  refine Does.of (cc := cX1_closes) (maxL := 7) (ret := (some .boolean)) (own := RX1) (by decide) rfl rfl (Nat.le_of_ble_eq_true rfl) ?_
  intro C hC hR
  show MW C g 7 (0, 0) 0 [(0, .ref (g.2.2 15)), (1, .ref (g.2.2 6)), (2, .int (z32 z)), (3, .int (z32 len))] [] S
  have hO := opnOk_of hok hf
  have hp0 := hp 0 (by omega) (by omega)
  have hpl := hp (len - 1) (by omega) (by omega)
  refine m_aload_n hC dX1_closes_0 0 rfl ?_
  refine m_iconst (v := 0) hC dX1_closes_1 (by decide) ?_
  refine m_callVi (n := 1) hC (c_X1_shopAt hc (by omega)) gX1_closes_X1_shopAt rfl dX1_closes_2 rfl rfl (by decide +kernel) ⟨Nat.le_of_ble_eq_true rfl, Nat.le_of_ble_eq_true rfl⟩ rfl (Nat.le_of_ble_eq_true rfl) ⟨Nat.le_of_ble_eq_true rfl, Nat.le_of_ble_eq_true rfl⟩ rfl ?_
  refine m_istore hC dX1_closes_5 (fun z9 => [(4, .int (z32 z9)), (0, .ref (g.2.2 15)), (1, .ref (g.2.2 6)), (2, .int (z32 z)), (3, .int (z32 len))]) (by decide) (fun _ => rfl) (fun v4_5 hv4_5 => ?_)
  refine m_aload_n hC dX1_closes_7 1 rfl ?_
  refine m_iload_n hC dX1_closes_8 4 rfl ?_
  refine m_iconst (v := 1) hC dX1_closes_9 (by decide) ?_
  refine m_isub hC dX1_closes_10 ?_
  refine m_callVi (n := 1) hC (c_X1_shopAt hc (by omega)) gX1_closes_X1_shopAt rfl dX1_closes_11 rfl rfl (by decide +kernel) ⟨Nat.le_of_ble_eq_true rfl, Nat.le_of_ble_eq_true rfl⟩ rfl (Nat.le_of_ble_eq_true rfl) ⟨Nat.le_of_ble_eq_true rfl, Nat.le_of_ble_eq_true rfl⟩ rfl ?_
  refine m_istore hC dX1_closes_14 (fun z9 => [(5, .int (z32 z9)), (4, .int (z32 v4_5)), (0, .ref (g.2.2 15)), (1, .ref (g.2.2 6)), (2, .int (z32 z)), (3, .int (z32 len))]) (by decide) (fun _ => rfl) (fun v5_14 hv5_14 => ?_)
  refine m_iload_n hC dX1_closes_16 5 rfl ?_
  refine m_iload_n hC dX1_closes_17 4 rfl ?_
  refine m_icmp_ge (tgt := 26) hC dX1_closes_18 (by decide) (by omega) (by omega) (fun c_18 => ?_) (fun c_18 => ?_)
  · exfalso; omega
  · refine m_iload_n hC dX1_closes_21 5 rfl ?_
    refine m_iconst (v := 5) hC dX1_closes_22 (by decide) ?_
    refine m_icmp_lt (tgt := 43) hC dX1_closes_23 (by decide) (by omega) (by omega) (fun c_23 => ?_) (fun c_23 => ?_)
    · refine m_iload hC dX1_closes_43 1 rfl ?_
      refine m_iconst (v := 1) hC dX1_closes_45 (by decide) ?_
      refine m_iadd hC dX1_closes_46 ?_
      refine m_istore hC dX1_closes_47 (fun z9 => [(6, .int (z32 z9)), (5, .int (z32 v5_14)), (4, .int (z32 v4_5)), (0, .ref (g.2.2 15)), (1, .ref (g.2.2 6)), (2, .int (z32 z)), (3, .int (z32 len))]) (by decide) (fun _ => rfl) (fun v6_47 hv6_47 => ?_)
      have L49 : ∀ (n49 : Nat) (y : Int) (S1 : Mem), 8 - y < (n49 : Int) → clI S n 0 y S1 → v4_5 + 1 ≤ y → y ≤ 8 → MW C g 7 (0, 0) 49 [(0, .ref (g.2.2 15)), (1, .ref (g.2.2 6)), (2, .int (z32 z)), (3, .int (z32 len)), (4, .int (z32 v4_5)), (5, .int (z32 v5_14)), (6, .int (z32 y))] [] S1 := by
        intro n49
        induction n49 with
        | zero => intros; exfalso; omega
        | succ n49 ih49 =>
          intro y S1 hm49 hI hy1 hy2
          have hm := clI_mem hI
          have hA : anyI (fun k => decide (pth S1 k = y)) n = anyI (fun k => decide (pth S k = y)) n := anyI_cong (fun k k0 k1 => by rw [hm.2.2.2.2.2 k k0 k1])
          have hc1 : 0 ≤ S1 15 1 ∧ S1 15 1 < 57 := by rw [hm.2.2.1]; exact hc
          have hst := cl_set hI hn
          refine m_iload hC dX1_closes_49 6 rfl ?_
          refine m_bipush (v := 8) hC dX1_closes_51 (by decide) ?_
          refine m_icmp_ge (tgt := 104) hC dX1_closes_53 (by decide) (by omega) (by omega) (fun c_53 => ?_) (fun c_53 => ?_)
          · refine m_iconst (v := 0) hC dX1_closes_104 (by decide) ?_
            refine m_iretx hC hR (Or.inr ⟨rfl, Or.inl rfl⟩) dX1_closes_105 ⟨Nat.le_of_ble_eq_true rfl, Nat.le_of_ble_eq_true rfl⟩ ?_
            exact cl_end (by rw [show (8 : Int) = y by omega]; exact hI)
          · refine m_aload_n hC dX1_closes_56 1 rfl ?_
            refine m_iload hC dX1_closes_57 5 rfl ?_
            refine m_iload hC dX1_closes_59 6 rfl ?_
            refine m_callVi (n := 2) hC (c_open9 (by omega) (by omega)) gX1_closes_X0_open rfl dX1_closes_61 rfl rfl (by decide +kernel) ⟨Nat.le_of_ble_eq_true rfl, Nat.le_of_ble_eq_true rfl⟩ rfl (Nat.le_of_ble_eq_true rfl) ⟨Nat.le_of_ble_eq_true rfl, Nat.le_of_ble_eq_true rfl⟩ rfl ?_
            refine m_if_le (tgt := 98) hC dX1_closes_64 (by decide) (by rw [hm.1, hm.2.1]; have h9 := hO v5_14 y; rw [opn_ix (by omega) (by omega)] at h9; exact h9) (fun c_64 => ?_) (fun c_64 => ?_)
            · have hN := clI_skip hI (by omega) (clF_no1 (r := 0) (y := y) hn (by rw [← hm.1, ← hm.2.1, ← hl, ← hv5_14]; omega))
              refine m_iinc hC dX1_closes_98 6 rfl (fun z9 => [(6, .int (z32 z9)), (0, .ref (g.2.2 15)), (1, .ref (g.2.2 6)), (2, .int (z32 z)), (3, .int (z32 len)), (4, .int (z32 v4_5)), (5, .int (z32 v5_14))]) (by decide) (fun _ => rfl) (fun v6_98 hv6_98 => ?_)
              refine m_goto (tgt := 49) hC dX1_closes_101 (by decide) ?_
              refine m_locals [1, 2, 3, 4, 5, 6, 0] rfl ?_
              exact ih49 v6_98 _ (by omega) (by rw [hv6_98]; exact hN) (by omega) (by omega)
            · have hG1 : 0 < S 8 (ix (pth S ((n : Int) - 1)) y) - S 10 (ix (pth S ((n : Int) - 1)) y) := by rw [← hm.1, ← hm.2.1, ← hl, ← hv5_14]; omega
              refine m_aload_n hC dX1_closes_67 0 rfl ?_
              refine m_iload hC dX1_closes_68 6 rfl ?_
              refine m_iload_n hC dX1_closes_70 3 rfl ?_
              refine m_callVi (n := 2) hC (c_X1_isSet hc1 hl (by omega) (by omega) (fun k k0 k1 => by rw [hm.2.2.2.2.2 k k0 k1]; have := hp k k0 k1; omega)) gX1_closes_X1_isSet rfl dX1_closes_71 rfl rfl (by decide +kernel) ⟨Nat.le_of_ble_eq_true rfl, Nat.le_of_ble_eq_true rfl⟩ rfl (Nat.le_of_ble_eq_true rfl) ⟨Nat.le_of_ble_eq_true rfl, Nat.le_of_ble_eq_true rfl⟩ rfl ?_
              refine m_if_ne (tgt := 98) hC dX1_closes_74 (by decide) (by have := bI_rng (anyI (fun k => decide (pth S1 k = y)) n); omega) (fun c_74 => ?_) (fun c_74 => ?_)
              · have hN := clI_skip hI (by omega) (clF_no2 (r := 0) (by rw [← hA]; exact bI_1 c_74))
                refine m_iinc hC dX1_closes_98 6 rfl (fun z9 => [(6, .int (z32 z9)), (0, .ref (g.2.2 15)), (1, .ref (g.2.2 6)), (2, .int (z32 z)), (3, .int (z32 len)), (4, .int (z32 v4_5)), (5, .int (z32 v5_14))]) (by decide) (fun _ => rfl) (fun v6_98 hv6_98 => ?_)
                refine m_goto (tgt := 49) hC dX1_closes_101 (by decide) ?_
                refine m_locals [1, 2, 3, 4, 5, 6, 0] rfl ?_
                exact ih49 v6_98 _ (by omega) (by rw [hv6_98]; exact hN) (by omega) (by omega)
              · have hA2 : anyI (fun k => decide (pth S k = y)) n = false := by rw [← hA]; exact bI_0 (Decidable.of_not_not c_74)
                refine m_aload_n hC dX1_closes_77 0 rfl ?_
                refine m_iload_n hC dX1_closes_78 3 rfl ?_
                refine m_iload hC dX1_closes_79 6 rfl ?_
                refine m_callVv (n := 2) hC (c_X1_setShopAt hc1 (by omega)) gX1_closes_X1_setShopAt rfl dX1_closes_81 rfl rfl (by decide +kernel) ⟨Nat.le_of_ble_eq_true rfl, Nat.le_of_ble_eq_true rfl⟩ rfl (Nat.le_of_ble_eq_true rfl) ⟨Nat.le_of_ble_eq_true rfl, Nat.le_of_ble_eq_true rfl⟩ rfl ?_
                refine m_aload_n hC dX1_closes_84 0 rfl ?_
                refine m_aload_n hC dX1_closes_85 1 rfl ?_
                refine m_iload_n hC dX1_closes_86 2 rfl ?_
                refine m_iload_n hC dX1_closes_87 3 rfl ?_
                refine m_iconst (v := 1) hC dX1_closes_88 (by decide) ?_
                refine m_iadd hC dX1_closes_89 ?_
                refine m_callSix (n := 4) hC (c_closes_0 (S := put17 S1 (2 + len) y) (n := n + 1) (z := z) (len := len + 1) hc1 (by omega) (by omega) (by omega) (by omega) (by rw [hl]; exact cl_rng hI hn hp (by omega)) (by show Ok (S1 8); rw [hm.1]; exact hok) (by show Fz (S1 8) (S1 10); rw [hm.1, hm.2.1]; exact hf)) gX1_closes_X1_closes rfl dX1_closes_90 (by decide +kernel) ⟨Nat.le_of_ble_eq_true rfl, Nat.le_of_ble_eq_true rfl⟩ rfl (Nat.le_of_ble_eq_true rfl) ⟨Nat.le_of_ble_eq_true rfl, Nat.le_of_ble_eq_true rfl⟩ rfl (fun v9 S3 hv9 => ?_)
                rw [hl] at hv9
                refine m_if_eq (tgt := 98) hC dX1_closes_93 (by decide) (by have := clP_v hv9; omega) (fun c_93 => ?_) (fun c_93 => ?_)
                · have hN := (cl_back hI hn (by omega) (by omega) hG1 hA2 hv9).1 c_93
                  refine m_iinc hC dX1_closes_98 6 rfl (fun z9 => [(6, .int (z32 z9)), (0, .ref (g.2.2 15)), (1, .ref (g.2.2 6)), (2, .int (z32 z)), (3, .int (z32 len)), (4, .int (z32 v4_5)), (5, .int (z32 v5_14))]) (by decide) (fun _ => rfl) (fun v6_98 hv6_98 => ?_)
                  refine m_goto (tgt := 49) hC dX1_closes_101 (by decide) ?_
                  refine m_locals [1, 2, 3, 4, 5, 6, 0] rfl ?_
                  exact ih49 v6_98 _ (by omega) (by rw [hv6_98]; exact hN) (by omega) (by omega)
                · refine m_iconst (v := 1) hC dX1_closes_96 (by decide) ?_
                  refine m_iretx hC hR (Or.inr ⟨rfl, Or.inr rfl⟩) dX1_closes_97 ⟨Nat.le_of_ble_eq_true rfl, Nat.le_of_ble_eq_true rfl⟩ ?_
                  exact (cl_back hI hn (by omega) (by omega) hG1 hA2 hv9).2 c_93
      refine m_locals [3, 4, 5, 6, 2, 1, 0] rfl ?_
      exact L49 9 v6_47 S (by omega) (by rw [hv6_47, hv4_5]; exact clI_0 hp0) (by omega) (by omega)
    · exfalso; omega
set_option maxHeartbeats 4000000 in
set_option maxRecDepth 100000 in
theorem c_closes_2 {g : mG} {S : Mem} (hc : 0 ≤ S 15 1 ∧ S 15 1 < 57) {n : Nat} {z len : Int} (hl : len = n) (hz : z = (n : Int) + 2) (hn : 1 ≤ n) (h5 : n + 2 ≤ 5) (hp : ∀ k : Int, 0 ≤ k → k < n → 0 ≤ pth S k ∧ pth S k < 8) (hok : Ok (S 8)) (hf : Fz (S 8) (S 10)) (l : Launch) : Does l yX1_closes wsX1_closes ({ frames := 5, cells := 0, slots := 0, locals := 120 } : Room) g [.ref (g.2.2 15), .ref (g.2.2 6), .int (z32 z), .int (z32 len)] S (PIx (fun v S' => clP S n 2 v S')) := by
  refine Does.of (cc := cX1_closes) (maxL := 7) (ret := (some .boolean)) (own := RX1) (by decide) rfl rfl (Nat.le_of_ble_eq_true rfl) ?_
  intro C hC hR
  show MW C g 7 (0, 0) 0 [(0, .ref (g.2.2 15)), (1, .ref (g.2.2 6)), (2, .int (z32 z)), (3, .int (z32 len))] [] S
  have hO := opnOk_of hok hf
  have hp0 := hp 0 (by omega) (by omega)
  have hpl := hp (len - 1) (by omega) (by omega)
  refine m_aload_n hC dX1_closes_0 0 rfl ?_
  refine m_iconst (v := 0) hC dX1_closes_1 (by decide) ?_
  refine m_callVi (n := 1) hC (c_X1_shopAt hc (by omega)) gX1_closes_X1_shopAt rfl dX1_closes_2 rfl rfl (by decide +kernel) ⟨Nat.le_of_ble_eq_true rfl, Nat.le_of_ble_eq_true rfl⟩ rfl (Nat.le_of_ble_eq_true rfl) ⟨Nat.le_of_ble_eq_true rfl, Nat.le_of_ble_eq_true rfl⟩ rfl ?_
  refine m_istore hC dX1_closes_5 (fun z9 => [(4, .int (z32 z9)), (0, .ref (g.2.2 15)), (1, .ref (g.2.2 6)), (2, .int (z32 z)), (3, .int (z32 len))]) (by decide) (fun _ => rfl) (fun v4_5 hv4_5 => ?_)
  refine m_aload_n hC dX1_closes_7 1 rfl ?_
  refine m_iload_n hC dX1_closes_8 4 rfl ?_
  refine m_iconst (v := 1) hC dX1_closes_9 (by decide) ?_
  refine m_isub hC dX1_closes_10 ?_
  refine m_callVi (n := 1) hC (c_X1_shopAt hc (by omega)) gX1_closes_X1_shopAt rfl dX1_closes_11 rfl rfl (by decide +kernel) ⟨Nat.le_of_ble_eq_true rfl, Nat.le_of_ble_eq_true rfl⟩ rfl (Nat.le_of_ble_eq_true rfl) ⟨Nat.le_of_ble_eq_true rfl, Nat.le_of_ble_eq_true rfl⟩ rfl ?_
  refine m_istore hC dX1_closes_14 (fun z9 => [(5, .int (z32 z9)), (4, .int (z32 v4_5)), (0, .ref (g.2.2 15)), (1, .ref (g.2.2 6)), (2, .int (z32 z)), (3, .int (z32 len))]) (by decide) (fun _ => rfl) (fun v5_14 hv5_14 => ?_)
  refine m_iload_n hC dX1_closes_16 5 rfl ?_
  refine m_iload_n hC dX1_closes_17 4 rfl ?_
  refine m_icmp_ge (tgt := 26) hC dX1_closes_18 (by decide) (by omega) (by omega) (fun c_18 => ?_) (fun c_18 => ?_)
  · exfalso; omega
  · refine m_iload_n hC dX1_closes_21 5 rfl ?_
    refine m_iconst (v := 5) hC dX1_closes_22 (by decide) ?_
    refine m_icmp_lt (tgt := 43) hC dX1_closes_23 (by decide) (by omega) (by omega) (fun c_23 => ?_) (fun c_23 => ?_)
    · refine m_iload hC dX1_closes_43 1 rfl ?_
      refine m_iconst (v := 1) hC dX1_closes_45 (by decide) ?_
      refine m_iadd hC dX1_closes_46 ?_
      refine m_istore hC dX1_closes_47 (fun z9 => [(6, .int (z32 z9)), (5, .int (z32 v5_14)), (4, .int (z32 v4_5)), (0, .ref (g.2.2 15)), (1, .ref (g.2.2 6)), (2, .int (z32 z)), (3, .int (z32 len))]) (by decide) (fun _ => rfl) (fun v6_47 hv6_47 => ?_)
      have L49 : ∀ (n49 : Nat) (y : Int) (S1 : Mem), 8 - y < (n49 : Int) → clI S n 1 y S1 → v4_5 + 1 ≤ y → y ≤ 8 → MW C g 7 (0, 0) 49 [(0, .ref (g.2.2 15)), (1, .ref (g.2.2 6)), (2, .int (z32 z)), (3, .int (z32 len)), (4, .int (z32 v4_5)), (5, .int (z32 v5_14)), (6, .int (z32 y))] [] S1 := by
        intro n49
        induction n49 with
        | zero => intros; exfalso; omega
        | succ n49 ih49 =>
          intro y S1 hm49 hI hy1 hy2
          have hm := clI_mem hI
          have hA : anyI (fun k => decide (pth S1 k = y)) n = anyI (fun k => decide (pth S k = y)) n := anyI_cong (fun k k0 k1 => by rw [hm.2.2.2.2.2 k k0 k1])
          have hc1 : 0 ≤ S1 15 1 ∧ S1 15 1 < 57 := by rw [hm.2.2.1]; exact hc
          have hst := cl_set hI hn
          refine m_iload hC dX1_closes_49 6 rfl ?_
          refine m_bipush (v := 8) hC dX1_closes_51 (by decide) ?_
          refine m_icmp_ge (tgt := 104) hC dX1_closes_53 (by decide) (by omega) (by omega) (fun c_53 => ?_) (fun c_53 => ?_)
          · refine m_iconst (v := 0) hC dX1_closes_104 (by decide) ?_
            refine m_iretx hC hR (Or.inr ⟨rfl, Or.inl rfl⟩) dX1_closes_105 ⟨Nat.le_of_ble_eq_true rfl, Nat.le_of_ble_eq_true rfl⟩ ?_
            exact cl_end (by rw [show (8 : Int) = y by omega]; exact hI)
          · refine m_aload_n hC dX1_closes_56 1 rfl ?_
            refine m_iload hC dX1_closes_57 5 rfl ?_
            refine m_iload hC dX1_closes_59 6 rfl ?_
            refine m_callVi (n := 2) hC (c_open9 (by omega) (by omega)) gX1_closes_X0_open rfl dX1_closes_61 rfl rfl (by decide +kernel) ⟨Nat.le_of_ble_eq_true rfl, Nat.le_of_ble_eq_true rfl⟩ rfl (Nat.le_of_ble_eq_true rfl) ⟨Nat.le_of_ble_eq_true rfl, Nat.le_of_ble_eq_true rfl⟩ rfl ?_
            refine m_if_le (tgt := 98) hC dX1_closes_64 (by decide) (by rw [hm.1, hm.2.1]; have h9 := hO v5_14 y; rw [opn_ix (by omega) (by omega)] at h9; exact h9) (fun c_64 => ?_) (fun c_64 => ?_)
            · have hN := clI_skip hI (by omega) (clF_no1 (r := 1) (y := y) hn (by rw [← hm.1, ← hm.2.1, ← hl, ← hv5_14]; omega))
              refine m_iinc hC dX1_closes_98 6 rfl (fun z9 => [(6, .int (z32 z9)), (0, .ref (g.2.2 15)), (1, .ref (g.2.2 6)), (2, .int (z32 z)), (3, .int (z32 len)), (4, .int (z32 v4_5)), (5, .int (z32 v5_14))]) (by decide) (fun _ => rfl) (fun v6_98 hv6_98 => ?_)
              refine m_goto (tgt := 49) hC dX1_closes_101 (by decide) ?_
              refine m_locals [1, 2, 3, 4, 5, 6, 0] rfl ?_
              exact ih49 v6_98 _ (by omega) (by rw [hv6_98]; exact hN) (by omega) (by omega)
            · have hG1 : 0 < S 8 (ix (pth S ((n : Int) - 1)) y) - S 10 (ix (pth S ((n : Int) - 1)) y) := by rw [← hm.1, ← hm.2.1, ← hl, ← hv5_14]; omega
              refine m_aload_n hC dX1_closes_67 0 rfl ?_
              refine m_iload hC dX1_closes_68 6 rfl ?_
              refine m_iload_n hC dX1_closes_70 3 rfl ?_
              refine m_callVi (n := 2) hC (c_X1_isSet hc1 hl (by omega) (by omega) (fun k k0 k1 => by rw [hm.2.2.2.2.2 k k0 k1]; have := hp k k0 k1; omega)) gX1_closes_X1_isSet rfl dX1_closes_71 rfl rfl (by decide +kernel) ⟨Nat.le_of_ble_eq_true rfl, Nat.le_of_ble_eq_true rfl⟩ rfl (Nat.le_of_ble_eq_true rfl) ⟨Nat.le_of_ble_eq_true rfl, Nat.le_of_ble_eq_true rfl⟩ rfl ?_
              refine m_if_ne (tgt := 98) hC dX1_closes_74 (by decide) (by have := bI_rng (anyI (fun k => decide (pth S1 k = y)) n); omega) (fun c_74 => ?_) (fun c_74 => ?_)
              · have hN := clI_skip hI (by omega) (clF_no2 (r := 1) (by rw [← hA]; exact bI_1 c_74))
                refine m_iinc hC dX1_closes_98 6 rfl (fun z9 => [(6, .int (z32 z9)), (0, .ref (g.2.2 15)), (1, .ref (g.2.2 6)), (2, .int (z32 z)), (3, .int (z32 len)), (4, .int (z32 v4_5)), (5, .int (z32 v5_14))]) (by decide) (fun _ => rfl) (fun v6_98 hv6_98 => ?_)
                refine m_goto (tgt := 49) hC dX1_closes_101 (by decide) ?_
                refine m_locals [1, 2, 3, 4, 5, 6, 0] rfl ?_
                exact ih49 v6_98 _ (by omega) (by rw [hv6_98]; exact hN) (by omega) (by omega)
              · have hA2 : anyI (fun k => decide (pth S k = y)) n = false := by rw [← hA]; exact bI_0 (Decidable.of_not_not c_74)
                refine m_aload_n hC dX1_closes_77 0 rfl ?_
                refine m_iload_n hC dX1_closes_78 3 rfl ?_
                refine m_iload hC dX1_closes_79 6 rfl ?_
                refine m_callVv (n := 2) hC (c_X1_setShopAt hc1 (by omega)) gX1_closes_X1_setShopAt rfl dX1_closes_81 rfl rfl (by decide +kernel) ⟨Nat.le_of_ble_eq_true rfl, Nat.le_of_ble_eq_true rfl⟩ rfl (Nat.le_of_ble_eq_true rfl) ⟨Nat.le_of_ble_eq_true rfl, Nat.le_of_ble_eq_true rfl⟩ rfl ?_
                refine m_aload_n hC dX1_closes_84 0 rfl ?_
                refine m_aload_n hC dX1_closes_85 1 rfl ?_
                refine m_iload_n hC dX1_closes_86 2 rfl ?_
                refine m_iload_n hC dX1_closes_87 3 rfl ?_
                refine m_iconst (v := 1) hC dX1_closes_88 (by decide) ?_
                refine m_iadd hC dX1_closes_89 ?_
                refine m_callSix (n := 4) hC (c_closes_1 (S := put17 S1 (2 + len) y) (n := n + 1) (z := z) (len := len + 1) hc1 (by omega) (by omega) (by omega) (by omega) (by rw [hl]; exact cl_rng hI hn hp (by omega)) (by show Ok (S1 8); rw [hm.1]; exact hok) (by show Fz (S1 8) (S1 10); rw [hm.1, hm.2.1]; exact hf)) gX1_closes_X1_closes rfl dX1_closes_90 (by decide +kernel) ⟨Nat.le_of_ble_eq_true rfl, Nat.le_of_ble_eq_true rfl⟩ rfl (Nat.le_of_ble_eq_true rfl) ⟨Nat.le_of_ble_eq_true rfl, Nat.le_of_ble_eq_true rfl⟩ rfl (fun v9 S3 hv9 => ?_)
                rw [hl] at hv9
                refine m_if_eq (tgt := 98) hC dX1_closes_93 (by decide) (by have := clP_v hv9; omega) (fun c_93 => ?_) (fun c_93 => ?_)
                · have hN := (cl_back hI hn (by omega) (by omega) hG1 hA2 hv9).1 c_93
                  refine m_iinc hC dX1_closes_98 6 rfl (fun z9 => [(6, .int (z32 z9)), (0, .ref (g.2.2 15)), (1, .ref (g.2.2 6)), (2, .int (z32 z)), (3, .int (z32 len)), (4, .int (z32 v4_5)), (5, .int (z32 v5_14))]) (by decide) (fun _ => rfl) (fun v6_98 hv6_98 => ?_)
                  refine m_goto (tgt := 49) hC dX1_closes_101 (by decide) ?_
                  refine m_locals [1, 2, 3, 4, 5, 6, 0] rfl ?_
                  exact ih49 v6_98 _ (by omega) (by rw [hv6_98]; exact hN) (by omega) (by omega)
                · refine m_iconst (v := 1) hC dX1_closes_96 (by decide) ?_
                  refine m_iretx hC hR (Or.inr ⟨rfl, Or.inr rfl⟩) dX1_closes_97 ⟨Nat.le_of_ble_eq_true rfl, Nat.le_of_ble_eq_true rfl⟩ ?_
                  exact (cl_back hI hn (by omega) (by omega) hG1 hA2 hv9).2 c_93
      refine m_locals [3, 4, 5, 6, 2, 1, 0] rfl ?_
      exact L49 9 v6_47 S (by omega) (by rw [hv6_47, hv4_5]; exact clI_0 hp0) (by omega) (by omega)
    · exfalso; omega
set_option maxHeartbeats 4000000 in
set_option maxRecDepth 100000 in
theorem c_closes_3 {g : mG} {S : Mem} (hc : 0 ≤ S 15 1 ∧ S 15 1 < 57) {n : Nat} {z len : Int} (hl : len = n) (hz : z = (n : Int) + 3) (hn : 1 ≤ n) (h5 : n + 3 ≤ 5) (hp : ∀ k : Int, 0 ≤ k → k < n → 0 ≤ pth S k ∧ pth S k < 8) (hok : Ok (S 8)) (hf : Fz (S 8) (S 10)) (l : Launch) : Does l yX1_closes wsX1_closes ({ frames := 6, cells := 0, slots := 0, locals := 146 } : Room) g [.ref (g.2.2 15), .ref (g.2.2 6), .int (z32 z), .int (z32 len)] S (PIx (fun v S' => clP S n 3 v S')) := by
  refine Does.of (cc := cX1_closes) (maxL := 7) (ret := (some .boolean)) (own := RX1) (by decide) rfl rfl (Nat.le_of_ble_eq_true rfl) ?_
  intro C hC hR
  show MW C g 7 (0, 0) 0 [(0, .ref (g.2.2 15)), (1, .ref (g.2.2 6)), (2, .int (z32 z)), (3, .int (z32 len))] [] S
  have hO := opnOk_of hok hf
  have hp0 := hp 0 (by omega) (by omega)
  have hpl := hp (len - 1) (by omega) (by omega)
  refine m_aload_n hC dX1_closes_0 0 rfl ?_
  refine m_iconst (v := 0) hC dX1_closes_1 (by decide) ?_
  refine m_callVi (n := 1) hC (c_X1_shopAt hc (by omega)) gX1_closes_X1_shopAt rfl dX1_closes_2 rfl rfl (by decide +kernel) ⟨Nat.le_of_ble_eq_true rfl, Nat.le_of_ble_eq_true rfl⟩ rfl (Nat.le_of_ble_eq_true rfl) ⟨Nat.le_of_ble_eq_true rfl, Nat.le_of_ble_eq_true rfl⟩ rfl ?_
  refine m_istore hC dX1_closes_5 (fun z9 => [(4, .int (z32 z9)), (0, .ref (g.2.2 15)), (1, .ref (g.2.2 6)), (2, .int (z32 z)), (3, .int (z32 len))]) (by decide) (fun _ => rfl) (fun v4_5 hv4_5 => ?_)
  refine m_aload_n hC dX1_closes_7 1 rfl ?_
  refine m_iload_n hC dX1_closes_8 4 rfl ?_
  refine m_iconst (v := 1) hC dX1_closes_9 (by decide) ?_
  refine m_isub hC dX1_closes_10 ?_
  refine m_callVi (n := 1) hC (c_X1_shopAt hc (by omega)) gX1_closes_X1_shopAt rfl dX1_closes_11 rfl rfl (by decide +kernel) ⟨Nat.le_of_ble_eq_true rfl, Nat.le_of_ble_eq_true rfl⟩ rfl (Nat.le_of_ble_eq_true rfl) ⟨Nat.le_of_ble_eq_true rfl, Nat.le_of_ble_eq_true rfl⟩ rfl ?_
  refine m_istore hC dX1_closes_14 (fun z9 => [(5, .int (z32 z9)), (4, .int (z32 v4_5)), (0, .ref (g.2.2 15)), (1, .ref (g.2.2 6)), (2, .int (z32 z)), (3, .int (z32 len))]) (by decide) (fun _ => rfl) (fun v5_14 hv5_14 => ?_)
  refine m_iload_n hC dX1_closes_16 5 rfl ?_
  refine m_iload_n hC dX1_closes_17 4 rfl ?_
  refine m_icmp_ge (tgt := 26) hC dX1_closes_18 (by decide) (by omega) (by omega) (fun c_18 => ?_) (fun c_18 => ?_)
  · exfalso; omega
  · refine m_iload_n hC dX1_closes_21 5 rfl ?_
    refine m_iconst (v := 5) hC dX1_closes_22 (by decide) ?_
    refine m_icmp_lt (tgt := 43) hC dX1_closes_23 (by decide) (by omega) (by omega) (fun c_23 => ?_) (fun c_23 => ?_)
    · refine m_iload hC dX1_closes_43 1 rfl ?_
      refine m_iconst (v := 1) hC dX1_closes_45 (by decide) ?_
      refine m_iadd hC dX1_closes_46 ?_
      refine m_istore hC dX1_closes_47 (fun z9 => [(6, .int (z32 z9)), (5, .int (z32 v5_14)), (4, .int (z32 v4_5)), (0, .ref (g.2.2 15)), (1, .ref (g.2.2 6)), (2, .int (z32 z)), (3, .int (z32 len))]) (by decide) (fun _ => rfl) (fun v6_47 hv6_47 => ?_)
      have L49 : ∀ (n49 : Nat) (y : Int) (S1 : Mem), 8 - y < (n49 : Int) → clI S n 2 y S1 → v4_5 + 1 ≤ y → y ≤ 8 → MW C g 7 (0, 0) 49 [(0, .ref (g.2.2 15)), (1, .ref (g.2.2 6)), (2, .int (z32 z)), (3, .int (z32 len)), (4, .int (z32 v4_5)), (5, .int (z32 v5_14)), (6, .int (z32 y))] [] S1 := by
        intro n49
        induction n49 with
        | zero => intros; exfalso; omega
        | succ n49 ih49 =>
          intro y S1 hm49 hI hy1 hy2
          have hm := clI_mem hI
          have hA : anyI (fun k => decide (pth S1 k = y)) n = anyI (fun k => decide (pth S k = y)) n := anyI_cong (fun k k0 k1 => by rw [hm.2.2.2.2.2 k k0 k1])
          have hc1 : 0 ≤ S1 15 1 ∧ S1 15 1 < 57 := by rw [hm.2.2.1]; exact hc
          have hst := cl_set hI hn
          refine m_iload hC dX1_closes_49 6 rfl ?_
          refine m_bipush (v := 8) hC dX1_closes_51 (by decide) ?_
          refine m_icmp_ge (tgt := 104) hC dX1_closes_53 (by decide) (by omega) (by omega) (fun c_53 => ?_) (fun c_53 => ?_)
          · refine m_iconst (v := 0) hC dX1_closes_104 (by decide) ?_
            refine m_iretx hC hR (Or.inr ⟨rfl, Or.inl rfl⟩) dX1_closes_105 ⟨Nat.le_of_ble_eq_true rfl, Nat.le_of_ble_eq_true rfl⟩ ?_
            exact cl_end (by rw [show (8 : Int) = y by omega]; exact hI)
          · refine m_aload_n hC dX1_closes_56 1 rfl ?_
            refine m_iload hC dX1_closes_57 5 rfl ?_
            refine m_iload hC dX1_closes_59 6 rfl ?_
            refine m_callVi (n := 2) hC (c_open9 (by omega) (by omega)) gX1_closes_X0_open rfl dX1_closes_61 rfl rfl (by decide +kernel) ⟨Nat.le_of_ble_eq_true rfl, Nat.le_of_ble_eq_true rfl⟩ rfl (Nat.le_of_ble_eq_true rfl) ⟨Nat.le_of_ble_eq_true rfl, Nat.le_of_ble_eq_true rfl⟩ rfl ?_
            refine m_if_le (tgt := 98) hC dX1_closes_64 (by decide) (by rw [hm.1, hm.2.1]; have h9 := hO v5_14 y; rw [opn_ix (by omega) (by omega)] at h9; exact h9) (fun c_64 => ?_) (fun c_64 => ?_)
            · have hN := clI_skip hI (by omega) (clF_no1 (r := 2) (y := y) hn (by rw [← hm.1, ← hm.2.1, ← hl, ← hv5_14]; omega))
              refine m_iinc hC dX1_closes_98 6 rfl (fun z9 => [(6, .int (z32 z9)), (0, .ref (g.2.2 15)), (1, .ref (g.2.2 6)), (2, .int (z32 z)), (3, .int (z32 len)), (4, .int (z32 v4_5)), (5, .int (z32 v5_14))]) (by decide) (fun _ => rfl) (fun v6_98 hv6_98 => ?_)
              refine m_goto (tgt := 49) hC dX1_closes_101 (by decide) ?_
              refine m_locals [1, 2, 3, 4, 5, 6, 0] rfl ?_
              exact ih49 v6_98 _ (by omega) (by rw [hv6_98]; exact hN) (by omega) (by omega)
            · have hG1 : 0 < S 8 (ix (pth S ((n : Int) - 1)) y) - S 10 (ix (pth S ((n : Int) - 1)) y) := by rw [← hm.1, ← hm.2.1, ← hl, ← hv5_14]; omega
              refine m_aload_n hC dX1_closes_67 0 rfl ?_
              refine m_iload hC dX1_closes_68 6 rfl ?_
              refine m_iload_n hC dX1_closes_70 3 rfl ?_
              refine m_callVi (n := 2) hC (c_X1_isSet hc1 hl (by omega) (by omega) (fun k k0 k1 => by rw [hm.2.2.2.2.2 k k0 k1]; have := hp k k0 k1; omega)) gX1_closes_X1_isSet rfl dX1_closes_71 rfl rfl (by decide +kernel) ⟨Nat.le_of_ble_eq_true rfl, Nat.le_of_ble_eq_true rfl⟩ rfl (Nat.le_of_ble_eq_true rfl) ⟨Nat.le_of_ble_eq_true rfl, Nat.le_of_ble_eq_true rfl⟩ rfl ?_
              refine m_if_ne (tgt := 98) hC dX1_closes_74 (by decide) (by have := bI_rng (anyI (fun k => decide (pth S1 k = y)) n); omega) (fun c_74 => ?_) (fun c_74 => ?_)
              · have hN := clI_skip hI (by omega) (clF_no2 (r := 2) (by rw [← hA]; exact bI_1 c_74))
                refine m_iinc hC dX1_closes_98 6 rfl (fun z9 => [(6, .int (z32 z9)), (0, .ref (g.2.2 15)), (1, .ref (g.2.2 6)), (2, .int (z32 z)), (3, .int (z32 len)), (4, .int (z32 v4_5)), (5, .int (z32 v5_14))]) (by decide) (fun _ => rfl) (fun v6_98 hv6_98 => ?_)
                refine m_goto (tgt := 49) hC dX1_closes_101 (by decide) ?_
                refine m_locals [1, 2, 3, 4, 5, 6, 0] rfl ?_
                exact ih49 v6_98 _ (by omega) (by rw [hv6_98]; exact hN) (by omega) (by omega)
              · have hA2 : anyI (fun k => decide (pth S k = y)) n = false := by rw [← hA]; exact bI_0 (Decidable.of_not_not c_74)
                refine m_aload_n hC dX1_closes_77 0 rfl ?_
                refine m_iload_n hC dX1_closes_78 3 rfl ?_
                refine m_iload hC dX1_closes_79 6 rfl ?_
                refine m_callVv (n := 2) hC (c_X1_setShopAt hc1 (by omega)) gX1_closes_X1_setShopAt rfl dX1_closes_81 rfl rfl (by decide +kernel) ⟨Nat.le_of_ble_eq_true rfl, Nat.le_of_ble_eq_true rfl⟩ rfl (Nat.le_of_ble_eq_true rfl) ⟨Nat.le_of_ble_eq_true rfl, Nat.le_of_ble_eq_true rfl⟩ rfl ?_
                refine m_aload_n hC dX1_closes_84 0 rfl ?_
                refine m_aload_n hC dX1_closes_85 1 rfl ?_
                refine m_iload_n hC dX1_closes_86 2 rfl ?_
                refine m_iload_n hC dX1_closes_87 3 rfl ?_
                refine m_iconst (v := 1) hC dX1_closes_88 (by decide) ?_
                refine m_iadd hC dX1_closes_89 ?_
                refine m_callSix (n := 4) hC (c_closes_2 (S := put17 S1 (2 + len) y) (n := n + 1) (z := z) (len := len + 1) hc1 (by omega) (by omega) (by omega) (by omega) (by rw [hl]; exact cl_rng hI hn hp (by omega)) (by show Ok (S1 8); rw [hm.1]; exact hok) (by show Fz (S1 8) (S1 10); rw [hm.1, hm.2.1]; exact hf)) gX1_closes_X1_closes rfl dX1_closes_90 (by decide +kernel) ⟨Nat.le_of_ble_eq_true rfl, Nat.le_of_ble_eq_true rfl⟩ rfl (Nat.le_of_ble_eq_true rfl) ⟨Nat.le_of_ble_eq_true rfl, Nat.le_of_ble_eq_true rfl⟩ rfl (fun v9 S3 hv9 => ?_)
                rw [hl] at hv9
                refine m_if_eq (tgt := 98) hC dX1_closes_93 (by decide) (by have := clP_v hv9; omega) (fun c_93 => ?_) (fun c_93 => ?_)
                · have hN := (cl_back hI hn (by omega) (by omega) hG1 hA2 hv9).1 c_93
                  refine m_iinc hC dX1_closes_98 6 rfl (fun z9 => [(6, .int (z32 z9)), (0, .ref (g.2.2 15)), (1, .ref (g.2.2 6)), (2, .int (z32 z)), (3, .int (z32 len)), (4, .int (z32 v4_5)), (5, .int (z32 v5_14))]) (by decide) (fun _ => rfl) (fun v6_98 hv6_98 => ?_)
                  refine m_goto (tgt := 49) hC dX1_closes_101 (by decide) ?_
                  refine m_locals [1, 2, 3, 4, 5, 6, 0] rfl ?_
                  exact ih49 v6_98 _ (by omega) (by rw [hv6_98]; exact hN) (by omega) (by omega)
                · refine m_iconst (v := 1) hC dX1_closes_96 (by decide) ?_
                  refine m_iretx hC hR (Or.inr ⟨rfl, Or.inr rfl⟩) dX1_closes_97 ⟨Nat.le_of_ble_eq_true rfl, Nat.le_of_ble_eq_true rfl⟩ ?_
                  exact (cl_back hI hn (by omega) (by omega) hG1 hA2 hv9).2 c_93
      refine m_locals [3, 4, 5, 6, 2, 1, 0] rfl ?_
      exact L49 9 v6_47 S (by omega) (by rw [hv6_47, hv4_5]; exact clI_0 hp0) (by omega) (by omega)
    · exfalso; omega
set_option maxHeartbeats 4000000 in
set_option maxRecDepth 100000 in
theorem c_closes_4 {g : mG} {S : Mem} (hc : 0 ≤ S 15 1 ∧ S 15 1 < 57) {n : Nat} {z len : Int} (hl : len = n) (hz : z = (n : Int) + 4) (hn : 1 ≤ n) (h5 : n + 4 ≤ 5) (hp : ∀ k : Int, 0 ≤ k → k < n → 0 ≤ pth S k ∧ pth S k < 8) (hok : Ok (S 8)) (hf : Fz (S 8) (S 10)) (l : Launch) : Does l yX1_closes wsX1_closes ({ frames := 7, cells := 0, slots := 0, locals := 172 } : Room) g [.ref (g.2.2 15), .ref (g.2.2 6), .int (z32 z), .int (z32 len)] S (PIx (fun v S' => clP S n 4 v S')) := by
  refine Does.of (cc := cX1_closes) (maxL := 7) (ret := (some .boolean)) (own := RX1) (by decide) rfl rfl (Nat.le_of_ble_eq_true rfl) ?_
  intro C hC hR
  show MW C g 7 (0, 0) 0 [(0, .ref (g.2.2 15)), (1, .ref (g.2.2 6)), (2, .int (z32 z)), (3, .int (z32 len))] [] S
  have hO := opnOk_of hok hf
  have hp0 := hp 0 (by omega) (by omega)
  have hpl := hp (len - 1) (by omega) (by omega)
  refine m_aload_n hC dX1_closes_0 0 rfl ?_
  refine m_iconst (v := 0) hC dX1_closes_1 (by decide) ?_
  refine m_callVi (n := 1) hC (c_X1_shopAt hc (by omega)) gX1_closes_X1_shopAt rfl dX1_closes_2 rfl rfl (by decide +kernel) ⟨Nat.le_of_ble_eq_true rfl, Nat.le_of_ble_eq_true rfl⟩ rfl (Nat.le_of_ble_eq_true rfl) ⟨Nat.le_of_ble_eq_true rfl, Nat.le_of_ble_eq_true rfl⟩ rfl ?_
  refine m_istore hC dX1_closes_5 (fun z9 => [(4, .int (z32 z9)), (0, .ref (g.2.2 15)), (1, .ref (g.2.2 6)), (2, .int (z32 z)), (3, .int (z32 len))]) (by decide) (fun _ => rfl) (fun v4_5 hv4_5 => ?_)
  refine m_aload_n hC dX1_closes_7 1 rfl ?_
  refine m_iload_n hC dX1_closes_8 4 rfl ?_
  refine m_iconst (v := 1) hC dX1_closes_9 (by decide) ?_
  refine m_isub hC dX1_closes_10 ?_
  refine m_callVi (n := 1) hC (c_X1_shopAt hc (by omega)) gX1_closes_X1_shopAt rfl dX1_closes_11 rfl rfl (by decide +kernel) ⟨Nat.le_of_ble_eq_true rfl, Nat.le_of_ble_eq_true rfl⟩ rfl (Nat.le_of_ble_eq_true rfl) ⟨Nat.le_of_ble_eq_true rfl, Nat.le_of_ble_eq_true rfl⟩ rfl ?_
  refine m_istore hC dX1_closes_14 (fun z9 => [(5, .int (z32 z9)), (4, .int (z32 v4_5)), (0, .ref (g.2.2 15)), (1, .ref (g.2.2 6)), (2, .int (z32 z)), (3, .int (z32 len))]) (by decide) (fun _ => rfl) (fun v5_14 hv5_14 => ?_)
  refine m_iload_n hC dX1_closes_16 5 rfl ?_
  refine m_iload_n hC dX1_closes_17 4 rfl ?_
  refine m_icmp_ge (tgt := 26) hC dX1_closes_18 (by decide) (by omega) (by omega) (fun c_18 => ?_) (fun c_18 => ?_)
  · exfalso; omega
  · refine m_iload_n hC dX1_closes_21 5 rfl ?_
    refine m_iconst (v := 5) hC dX1_closes_22 (by decide) ?_
    refine m_icmp_lt (tgt := 43) hC dX1_closes_23 (by decide) (by omega) (by omega) (fun c_23 => ?_) (fun c_23 => ?_)
    · refine m_iload hC dX1_closes_43 1 rfl ?_
      refine m_iconst (v := 1) hC dX1_closes_45 (by decide) ?_
      refine m_iadd hC dX1_closes_46 ?_
      refine m_istore hC dX1_closes_47 (fun z9 => [(6, .int (z32 z9)), (5, .int (z32 v5_14)), (4, .int (z32 v4_5)), (0, .ref (g.2.2 15)), (1, .ref (g.2.2 6)), (2, .int (z32 z)), (3, .int (z32 len))]) (by decide) (fun _ => rfl) (fun v6_47 hv6_47 => ?_)
      have L49 : ∀ (n49 : Nat) (y : Int) (S1 : Mem), 8 - y < (n49 : Int) → clI S n 3 y S1 → v4_5 + 1 ≤ y → y ≤ 8 → MW C g 7 (0, 0) 49 [(0, .ref (g.2.2 15)), (1, .ref (g.2.2 6)), (2, .int (z32 z)), (3, .int (z32 len)), (4, .int (z32 v4_5)), (5, .int (z32 v5_14)), (6, .int (z32 y))] [] S1 := by
        intro n49
        induction n49 with
        | zero => intros; exfalso; omega
        | succ n49 ih49 =>
          intro y S1 hm49 hI hy1 hy2
          have hm := clI_mem hI
          have hA : anyI (fun k => decide (pth S1 k = y)) n = anyI (fun k => decide (pth S k = y)) n := anyI_cong (fun k k0 k1 => by rw [hm.2.2.2.2.2 k k0 k1])
          have hc1 : 0 ≤ S1 15 1 ∧ S1 15 1 < 57 := by rw [hm.2.2.1]; exact hc
          have hst := cl_set hI hn
          refine m_iload hC dX1_closes_49 6 rfl ?_
          refine m_bipush (v := 8) hC dX1_closes_51 (by decide) ?_
          refine m_icmp_ge (tgt := 104) hC dX1_closes_53 (by decide) (by omega) (by omega) (fun c_53 => ?_) (fun c_53 => ?_)
          · refine m_iconst (v := 0) hC dX1_closes_104 (by decide) ?_
            refine m_iretx hC hR (Or.inr ⟨rfl, Or.inl rfl⟩) dX1_closes_105 ⟨Nat.le_of_ble_eq_true rfl, Nat.le_of_ble_eq_true rfl⟩ ?_
            exact cl_end (by rw [show (8 : Int) = y by omega]; exact hI)
          · refine m_aload_n hC dX1_closes_56 1 rfl ?_
            refine m_iload hC dX1_closes_57 5 rfl ?_
            refine m_iload hC dX1_closes_59 6 rfl ?_
            refine m_callVi (n := 2) hC (c_open9 (by omega) (by omega)) gX1_closes_X0_open rfl dX1_closes_61 rfl rfl (by decide +kernel) ⟨Nat.le_of_ble_eq_true rfl, Nat.le_of_ble_eq_true rfl⟩ rfl (Nat.le_of_ble_eq_true rfl) ⟨Nat.le_of_ble_eq_true rfl, Nat.le_of_ble_eq_true rfl⟩ rfl ?_
            refine m_if_le (tgt := 98) hC dX1_closes_64 (by decide) (by rw [hm.1, hm.2.1]; have h9 := hO v5_14 y; rw [opn_ix (by omega) (by omega)] at h9; exact h9) (fun c_64 => ?_) (fun c_64 => ?_)
            · have hN := clI_skip hI (by omega) (clF_no1 (r := 3) (y := y) hn (by rw [← hm.1, ← hm.2.1, ← hl, ← hv5_14]; omega))
              refine m_iinc hC dX1_closes_98 6 rfl (fun z9 => [(6, .int (z32 z9)), (0, .ref (g.2.2 15)), (1, .ref (g.2.2 6)), (2, .int (z32 z)), (3, .int (z32 len)), (4, .int (z32 v4_5)), (5, .int (z32 v5_14))]) (by decide) (fun _ => rfl) (fun v6_98 hv6_98 => ?_)
              refine m_goto (tgt := 49) hC dX1_closes_101 (by decide) ?_
              refine m_locals [1, 2, 3, 4, 5, 6, 0] rfl ?_
              exact ih49 v6_98 _ (by omega) (by rw [hv6_98]; exact hN) (by omega) (by omega)
            · have hG1 : 0 < S 8 (ix (pth S ((n : Int) - 1)) y) - S 10 (ix (pth S ((n : Int) - 1)) y) := by rw [← hm.1, ← hm.2.1, ← hl, ← hv5_14]; omega
              refine m_aload_n hC dX1_closes_67 0 rfl ?_
              refine m_iload hC dX1_closes_68 6 rfl ?_
              refine m_iload_n hC dX1_closes_70 3 rfl ?_
              refine m_callVi (n := 2) hC (c_X1_isSet hc1 hl (by omega) (by omega) (fun k k0 k1 => by rw [hm.2.2.2.2.2 k k0 k1]; have := hp k k0 k1; omega)) gX1_closes_X1_isSet rfl dX1_closes_71 rfl rfl (by decide +kernel) ⟨Nat.le_of_ble_eq_true rfl, Nat.le_of_ble_eq_true rfl⟩ rfl (Nat.le_of_ble_eq_true rfl) ⟨Nat.le_of_ble_eq_true rfl, Nat.le_of_ble_eq_true rfl⟩ rfl ?_
              refine m_if_ne (tgt := 98) hC dX1_closes_74 (by decide) (by have := bI_rng (anyI (fun k => decide (pth S1 k = y)) n); omega) (fun c_74 => ?_) (fun c_74 => ?_)
              · have hN := clI_skip hI (by omega) (clF_no2 (r := 3) (by rw [← hA]; exact bI_1 c_74))
                refine m_iinc hC dX1_closes_98 6 rfl (fun z9 => [(6, .int (z32 z9)), (0, .ref (g.2.2 15)), (1, .ref (g.2.2 6)), (2, .int (z32 z)), (3, .int (z32 len)), (4, .int (z32 v4_5)), (5, .int (z32 v5_14))]) (by decide) (fun _ => rfl) (fun v6_98 hv6_98 => ?_)
                refine m_goto (tgt := 49) hC dX1_closes_101 (by decide) ?_
                refine m_locals [1, 2, 3, 4, 5, 6, 0] rfl ?_
                exact ih49 v6_98 _ (by omega) (by rw [hv6_98]; exact hN) (by omega) (by omega)
              · have hA2 : anyI (fun k => decide (pth S k = y)) n = false := by rw [← hA]; exact bI_0 (Decidable.of_not_not c_74)
                refine m_aload_n hC dX1_closes_77 0 rfl ?_
                refine m_iload_n hC dX1_closes_78 3 rfl ?_
                refine m_iload hC dX1_closes_79 6 rfl ?_
                refine m_callVv (n := 2) hC (c_X1_setShopAt hc1 (by omega)) gX1_closes_X1_setShopAt rfl dX1_closes_81 rfl rfl (by decide +kernel) ⟨Nat.le_of_ble_eq_true rfl, Nat.le_of_ble_eq_true rfl⟩ rfl (Nat.le_of_ble_eq_true rfl) ⟨Nat.le_of_ble_eq_true rfl, Nat.le_of_ble_eq_true rfl⟩ rfl ?_
                refine m_aload_n hC dX1_closes_84 0 rfl ?_
                refine m_aload_n hC dX1_closes_85 1 rfl ?_
                refine m_iload_n hC dX1_closes_86 2 rfl ?_
                refine m_iload_n hC dX1_closes_87 3 rfl ?_
                refine m_iconst (v := 1) hC dX1_closes_88 (by decide) ?_
                refine m_iadd hC dX1_closes_89 ?_
                refine m_callSix (n := 4) hC (c_closes_3 (S := put17 S1 (2 + len) y) (n := n + 1) (z := z) (len := len + 1) hc1 (by omega) (by omega) (by omega) (by omega) (by rw [hl]; exact cl_rng hI hn hp (by omega)) (by show Ok (S1 8); rw [hm.1]; exact hok) (by show Fz (S1 8) (S1 10); rw [hm.1, hm.2.1]; exact hf)) gX1_closes_X1_closes rfl dX1_closes_90 (by decide +kernel) ⟨Nat.le_of_ble_eq_true rfl, Nat.le_of_ble_eq_true rfl⟩ rfl (Nat.le_of_ble_eq_true rfl) ⟨Nat.le_of_ble_eq_true rfl, Nat.le_of_ble_eq_true rfl⟩ rfl (fun v9 S3 hv9 => ?_)
                rw [hl] at hv9
                refine m_if_eq (tgt := 98) hC dX1_closes_93 (by decide) (by have := clP_v hv9; omega) (fun c_93 => ?_) (fun c_93 => ?_)
                · have hN := (cl_back hI hn (by omega) (by omega) hG1 hA2 hv9).1 c_93
                  refine m_iinc hC dX1_closes_98 6 rfl (fun z9 => [(6, .int (z32 z9)), (0, .ref (g.2.2 15)), (1, .ref (g.2.2 6)), (2, .int (z32 z)), (3, .int (z32 len)), (4, .int (z32 v4_5)), (5, .int (z32 v5_14))]) (by decide) (fun _ => rfl) (fun v6_98 hv6_98 => ?_)
                  refine m_goto (tgt := 49) hC dX1_closes_101 (by decide) ?_
                  refine m_locals [1, 2, 3, 4, 5, 6, 0] rfl ?_
                  exact ih49 v6_98 _ (by omega) (by rw [hv6_98]; exact hN) (by omega) (by omega)
                · refine m_iconst (v := 1) hC dX1_closes_96 (by decide) ?_
                  refine m_iretx hC hR (Or.inr ⟨rfl, Or.inr rfl⟩) dX1_closes_97 ⟨Nat.le_of_ble_eq_true rfl, Nat.le_of_ble_eq_true rfl⟩ ?_
                  exact (cl_back hI hn (by omega) (by omega) hG1 hA2 hv9).2 c_93
      refine m_locals [3, 4, 5, 6, 2, 1, 0] rfl ?_
      exact L49 9 v6_47 S (by omega) (by rw [hv6_47, hv4_5]; exact clI_0 hp0) (by omega) (by omega)
    · exfalso; omega
set_option maxHeartbeats 4000000 in
set_option maxRecDepth 100000 in
theorem c_closes_t1 {g : mG} {S : Mem} (hc : 0 ≤ S 15 1 ∧ S 15 1 < 57) {n : Nat} {z len : Int} (hl : len = n) (hz : z = (n : Int) + 1) (hn : 1 ≤ n) (h5 : n + 1 ≤ 5) (hp : ∀ k : Int, 0 ≤ k → k < n → 0 ≤ pth S k ∧ pth S k < 8) (hok : Ok (S 8)) (hf : Fz (S 8) (S 10)) (l : Launch) : Does l yX1_closes wsX1_closes ({ frames := 7, cells := 0, slots := 0, locals := 172 } : Room) g [.ref (g.2.2 15), .ref (g.2.2 6), .int (z32 z), .int (z32 len)] S (PIx (fun v S' => clP S n 1 v S')) := by
  refine Does.of (cc := cX1_closes) (maxL := 7) (ret := (some .boolean)) (own := RX1) (by decide) rfl rfl (Nat.le_of_ble_eq_true rfl) ?_
  intro C hC hR
  show MW C g 7 (0, 0) 0 [(0, .ref (g.2.2 15)), (1, .ref (g.2.2 6)), (2, .int (z32 z)), (3, .int (z32 len))] [] S
  have hO := opnOk_of hok hf
  have hp0 := hp 0 (by omega) (by omega)
  have hpl := hp (len - 1) (by omega) (by omega)
  refine m_aload_n hC dX1_closes_0 0 rfl ?_
  refine m_iconst (v := 0) hC dX1_closes_1 (by decide) ?_
  refine m_callVi (n := 1) hC (c_X1_shopAt hc (by omega)) gX1_closes_X1_shopAt rfl dX1_closes_2 rfl rfl (by decide +kernel) ⟨Nat.le_of_ble_eq_true rfl, Nat.le_of_ble_eq_true rfl⟩ rfl (Nat.le_of_ble_eq_true rfl) ⟨Nat.le_of_ble_eq_true rfl, Nat.le_of_ble_eq_true rfl⟩ rfl ?_
  refine m_istore hC dX1_closes_5 (fun z9 => [(4, .int (z32 z9)), (0, .ref (g.2.2 15)), (1, .ref (g.2.2 6)), (2, .int (z32 z)), (3, .int (z32 len))]) (by decide) (fun _ => rfl) (fun v4_5 hv4_5 => ?_)
  refine m_aload_n hC dX1_closes_7 1 rfl ?_
  refine m_iload_n hC dX1_closes_8 4 rfl ?_
  refine m_iconst (v := 1) hC dX1_closes_9 (by decide) ?_
  refine m_isub hC dX1_closes_10 ?_
  refine m_callVi (n := 1) hC (c_X1_shopAt hc (by omega)) gX1_closes_X1_shopAt rfl dX1_closes_11 rfl rfl (by decide +kernel) ⟨Nat.le_of_ble_eq_true rfl, Nat.le_of_ble_eq_true rfl⟩ rfl (Nat.le_of_ble_eq_true rfl) ⟨Nat.le_of_ble_eq_true rfl, Nat.le_of_ble_eq_true rfl⟩ rfl ?_
  refine m_istore hC dX1_closes_14 (fun z9 => [(5, .int (z32 z9)), (4, .int (z32 v4_5)), (0, .ref (g.2.2 15)), (1, .ref (g.2.2 6)), (2, .int (z32 z)), (3, .int (z32 len))]) (by decide) (fun _ => rfl) (fun v5_14 hv5_14 => ?_)
  refine m_iload_n hC dX1_closes_16 5 rfl ?_
  refine m_iload_n hC dX1_closes_17 4 rfl ?_
  refine m_icmp_ge (tgt := 26) hC dX1_closes_18 (by decide) (by omega) (by omega) (fun c_18 => ?_) (fun c_18 => ?_)
  · exfalso; omega
  · refine m_iload_n hC dX1_closes_21 5 rfl ?_
    refine m_iconst (v := 5) hC dX1_closes_22 (by decide) ?_
    refine m_icmp_lt (tgt := 43) hC dX1_closes_23 (by decide) (by omega) (by omega) (fun c_23 => ?_) (fun c_23 => ?_)
    · refine m_iload hC dX1_closes_43 1 rfl ?_
      refine m_iconst (v := 1) hC dX1_closes_45 (by decide) ?_
      refine m_iadd hC dX1_closes_46 ?_
      refine m_istore hC dX1_closes_47 (fun z9 => [(6, .int (z32 z9)), (5, .int (z32 v5_14)), (4, .int (z32 v4_5)), (0, .ref (g.2.2 15)), (1, .ref (g.2.2 6)), (2, .int (z32 z)), (3, .int (z32 len))]) (by decide) (fun _ => rfl) (fun v6_47 hv6_47 => ?_)
      have L49 : ∀ (n49 : Nat) (y : Int) (S1 : Mem), 8 - y < (n49 : Int) → clI S n 0 y S1 → v4_5 + 1 ≤ y → y ≤ 8 → MW C g 7 (0, 0) 49 [(0, .ref (g.2.2 15)), (1, .ref (g.2.2 6)), (2, .int (z32 z)), (3, .int (z32 len)), (4, .int (z32 v4_5)), (5, .int (z32 v5_14)), (6, .int (z32 y))] [] S1 := by
        intro n49
        induction n49 with
        | zero => intros; exfalso; omega
        | succ n49 ih49 =>
          intro y S1 hm49 hI hy1 hy2
          have hm := clI_mem hI
          have hA : anyI (fun k => decide (pth S1 k = y)) n = anyI (fun k => decide (pth S k = y)) n := anyI_cong (fun k k0 k1 => by rw [hm.2.2.2.2.2 k k0 k1])
          have hc1 : 0 ≤ S1 15 1 ∧ S1 15 1 < 57 := by rw [hm.2.2.1]; exact hc
          have hst := cl_set hI hn
          refine m_iload hC dX1_closes_49 6 rfl ?_
          refine m_bipush (v := 8) hC dX1_closes_51 (by decide) ?_
          refine m_icmp_ge (tgt := 104) hC dX1_closes_53 (by decide) (by omega) (by omega) (fun c_53 => ?_) (fun c_53 => ?_)
          · refine m_iconst (v := 0) hC dX1_closes_104 (by decide) ?_
            refine m_iretx hC hR (Or.inr ⟨rfl, Or.inl rfl⟩) dX1_closes_105 ⟨Nat.le_of_ble_eq_true rfl, Nat.le_of_ble_eq_true rfl⟩ ?_
            exact cl_end (by rw [show (8 : Int) = y by omega]; exact hI)
          · refine m_aload_n hC dX1_closes_56 1 rfl ?_
            refine m_iload hC dX1_closes_57 5 rfl ?_
            refine m_iload hC dX1_closes_59 6 rfl ?_
            refine m_callVi (n := 2) hC (c_open9 (by omega) (by omega)) gX1_closes_X0_open rfl dX1_closes_61 rfl rfl (by decide +kernel) ⟨Nat.le_of_ble_eq_true rfl, Nat.le_of_ble_eq_true rfl⟩ rfl (Nat.le_of_ble_eq_true rfl) ⟨Nat.le_of_ble_eq_true rfl, Nat.le_of_ble_eq_true rfl⟩ rfl ?_
            refine m_if_le (tgt := 98) hC dX1_closes_64 (by decide) (by rw [hm.1, hm.2.1]; have h9 := hO v5_14 y; rw [opn_ix (by omega) (by omega)] at h9; exact h9) (fun c_64 => ?_) (fun c_64 => ?_)
            · have hN := clI_skip hI (by omega) (clF_no1 (r := 0) (y := y) hn (by rw [← hm.1, ← hm.2.1, ← hl, ← hv5_14]; omega))
              refine m_iinc hC dX1_closes_98 6 rfl (fun z9 => [(6, .int (z32 z9)), (0, .ref (g.2.2 15)), (1, .ref (g.2.2 6)), (2, .int (z32 z)), (3, .int (z32 len)), (4, .int (z32 v4_5)), (5, .int (z32 v5_14))]) (by decide) (fun _ => rfl) (fun v6_98 hv6_98 => ?_)
              refine m_goto (tgt := 49) hC dX1_closes_101 (by decide) ?_
              refine m_locals [1, 2, 3, 4, 5, 6, 0] rfl ?_
              exact ih49 v6_98 _ (by omega) (by rw [hv6_98]; exact hN) (by omega) (by omega)
            · have hG1 : 0 < S 8 (ix (pth S ((n : Int) - 1)) y) - S 10 (ix (pth S ((n : Int) - 1)) y) := by rw [← hm.1, ← hm.2.1, ← hl, ← hv5_14]; omega
              refine m_aload_n hC dX1_closes_67 0 rfl ?_
              refine m_iload hC dX1_closes_68 6 rfl ?_
              refine m_iload_n hC dX1_closes_70 3 rfl ?_
              refine m_callVi (n := 2) hC (c_X1_isSet hc1 hl (by omega) (by omega) (fun k k0 k1 => by rw [hm.2.2.2.2.2 k k0 k1]; have := hp k k0 k1; omega)) gX1_closes_X1_isSet rfl dX1_closes_71 rfl rfl (by decide +kernel) ⟨Nat.le_of_ble_eq_true rfl, Nat.le_of_ble_eq_true rfl⟩ rfl (Nat.le_of_ble_eq_true rfl) ⟨Nat.le_of_ble_eq_true rfl, Nat.le_of_ble_eq_true rfl⟩ rfl ?_
              refine m_if_ne (tgt := 98) hC dX1_closes_74 (by decide) (by have := bI_rng (anyI (fun k => decide (pth S1 k = y)) n); omega) (fun c_74 => ?_) (fun c_74 => ?_)
              · have hN := clI_skip hI (by omega) (clF_no2 (r := 0) (by rw [← hA]; exact bI_1 c_74))
                refine m_iinc hC dX1_closes_98 6 rfl (fun z9 => [(6, .int (z32 z9)), (0, .ref (g.2.2 15)), (1, .ref (g.2.2 6)), (2, .int (z32 z)), (3, .int (z32 len)), (4, .int (z32 v4_5)), (5, .int (z32 v5_14))]) (by decide) (fun _ => rfl) (fun v6_98 hv6_98 => ?_)
                refine m_goto (tgt := 49) hC dX1_closes_101 (by decide) ?_
                refine m_locals [1, 2, 3, 4, 5, 6, 0] rfl ?_
                exact ih49 v6_98 _ (by omega) (by rw [hv6_98]; exact hN) (by omega) (by omega)
              · have hA2 : anyI (fun k => decide (pth S k = y)) n = false := by rw [← hA]; exact bI_0 (Decidable.of_not_not c_74)
                refine m_aload_n hC dX1_closes_77 0 rfl ?_
                refine m_iload_n hC dX1_closes_78 3 rfl ?_
                refine m_iload hC dX1_closes_79 6 rfl ?_
                refine m_callVv (n := 2) hC (c_X1_setShopAt hc1 (by omega)) gX1_closes_X1_setShopAt rfl dX1_closes_81 rfl rfl (by decide +kernel) ⟨Nat.le_of_ble_eq_true rfl, Nat.le_of_ble_eq_true rfl⟩ rfl (Nat.le_of_ble_eq_true rfl) ⟨Nat.le_of_ble_eq_true rfl, Nat.le_of_ble_eq_true rfl⟩ rfl ?_
                refine m_aload_n hC dX1_closes_84 0 rfl ?_
                refine m_aload_n hC dX1_closes_85 1 rfl ?_
                refine m_iload_n hC dX1_closes_86 2 rfl ?_
                refine m_iload_n hC dX1_closes_87 3 rfl ?_
                refine m_iconst (v := 1) hC dX1_closes_88 (by decide) ?_
                refine m_iadd hC dX1_closes_89 ?_
                refine m_callSix (n := 4) hC (c_closes_0 (S := put17 S1 (2 + len) y) (n := n + 1) (z := z) (len := len + 1) hc1 (by omega) (by omega) (by omega) (by omega) (by rw [hl]; exact cl_rng hI hn hp (by omega)) (by show Ok (S1 8); rw [hm.1]; exact hok) (by show Fz (S1 8) (S1 10); rw [hm.1, hm.2.1]; exact hf)) gX1_closes_X1_closes rfl dX1_closes_90 (by decide +kernel) ⟨Nat.le_of_ble_eq_true rfl, Nat.le_of_ble_eq_true rfl⟩ rfl (Nat.le_of_ble_eq_true rfl) ⟨Nat.le_of_ble_eq_true rfl, Nat.le_of_ble_eq_true rfl⟩ rfl (fun v9 S3 hv9 => ?_)
                rw [hl] at hv9
                refine m_if_eq (tgt := 98) hC dX1_closes_93 (by decide) (by have := clP_v hv9; omega) (fun c_93 => ?_) (fun c_93 => ?_)
                · have hN := (cl_back hI hn (by omega) (by omega) hG1 hA2 hv9).1 c_93
                  refine m_iinc hC dX1_closes_98 6 rfl (fun z9 => [(6, .int (z32 z9)), (0, .ref (g.2.2 15)), (1, .ref (g.2.2 6)), (2, .int (z32 z)), (3, .int (z32 len)), (4, .int (z32 v4_5)), (5, .int (z32 v5_14))]) (by decide) (fun _ => rfl) (fun v6_98 hv6_98 => ?_)
                  refine m_goto (tgt := 49) hC dX1_closes_101 (by decide) ?_
                  refine m_locals [1, 2, 3, 4, 5, 6, 0] rfl ?_
                  exact ih49 v6_98 _ (by omega) (by rw [hv6_98]; exact hN) (by omega) (by omega)
                · refine m_iconst (v := 1) hC dX1_closes_96 (by decide) ?_
                  refine m_iretx hC hR (Or.inr ⟨rfl, Or.inr rfl⟩) dX1_closes_97 ⟨Nat.le_of_ble_eq_true rfl, Nat.le_of_ble_eq_true rfl⟩ ?_
                  exact (cl_back hI hn (by omega) (by omega) hG1 hA2 hv9).2 c_93
      refine m_locals [3, 4, 5, 6, 2, 1, 0] rfl ?_
      exact L49 9 v6_47 S (by omega) (by rw [hv6_47, hv4_5]; exact clI_0 hp0) (by omega) (by omega)
    · exfalso; omega
set_option maxHeartbeats 4000000 in
set_option maxRecDepth 100000 in
theorem c_closes_t2 {g : mG} {S : Mem} (hc : 0 ≤ S 15 1 ∧ S 15 1 < 57) {n : Nat} {z len : Int} (hl : len = n) (hz : z = (n : Int) + 2) (hn : 1 ≤ n) (h5 : n + 2 ≤ 5) (hp : ∀ k : Int, 0 ≤ k → k < n → 0 ≤ pth S k ∧ pth S k < 8) (hok : Ok (S 8)) (hf : Fz (S 8) (S 10)) (l : Launch) : Does l yX1_closes wsX1_closes ({ frames := 7, cells := 0, slots := 0, locals := 172 } : Room) g [.ref (g.2.2 15), .ref (g.2.2 6), .int (z32 z), .int (z32 len)] S (PIx (fun v S' => clP S n 2 v S')) := by
  refine Does.of (cc := cX1_closes) (maxL := 7) (ret := (some .boolean)) (own := RX1) (by decide) rfl rfl (Nat.le_of_ble_eq_true rfl) ?_
  intro C hC hR
  show MW C g 7 (0, 0) 0 [(0, .ref (g.2.2 15)), (1, .ref (g.2.2 6)), (2, .int (z32 z)), (3, .int (z32 len))] [] S
  have hO := opnOk_of hok hf
  have hp0 := hp 0 (by omega) (by omega)
  have hpl := hp (len - 1) (by omega) (by omega)
  refine m_aload_n hC dX1_closes_0 0 rfl ?_
  refine m_iconst (v := 0) hC dX1_closes_1 (by decide) ?_
  refine m_callVi (n := 1) hC (c_X1_shopAt hc (by omega)) gX1_closes_X1_shopAt rfl dX1_closes_2 rfl rfl (by decide +kernel) ⟨Nat.le_of_ble_eq_true rfl, Nat.le_of_ble_eq_true rfl⟩ rfl (Nat.le_of_ble_eq_true rfl) ⟨Nat.le_of_ble_eq_true rfl, Nat.le_of_ble_eq_true rfl⟩ rfl ?_
  refine m_istore hC dX1_closes_5 (fun z9 => [(4, .int (z32 z9)), (0, .ref (g.2.2 15)), (1, .ref (g.2.2 6)), (2, .int (z32 z)), (3, .int (z32 len))]) (by decide) (fun _ => rfl) (fun v4_5 hv4_5 => ?_)
  refine m_aload_n hC dX1_closes_7 1 rfl ?_
  refine m_iload_n hC dX1_closes_8 4 rfl ?_
  refine m_iconst (v := 1) hC dX1_closes_9 (by decide) ?_
  refine m_isub hC dX1_closes_10 ?_
  refine m_callVi (n := 1) hC (c_X1_shopAt hc (by omega)) gX1_closes_X1_shopAt rfl dX1_closes_11 rfl rfl (by decide +kernel) ⟨Nat.le_of_ble_eq_true rfl, Nat.le_of_ble_eq_true rfl⟩ rfl (Nat.le_of_ble_eq_true rfl) ⟨Nat.le_of_ble_eq_true rfl, Nat.le_of_ble_eq_true rfl⟩ rfl ?_
  refine m_istore hC dX1_closes_14 (fun z9 => [(5, .int (z32 z9)), (4, .int (z32 v4_5)), (0, .ref (g.2.2 15)), (1, .ref (g.2.2 6)), (2, .int (z32 z)), (3, .int (z32 len))]) (by decide) (fun _ => rfl) (fun v5_14 hv5_14 => ?_)
  refine m_iload_n hC dX1_closes_16 5 rfl ?_
  refine m_iload_n hC dX1_closes_17 4 rfl ?_
  refine m_icmp_ge (tgt := 26) hC dX1_closes_18 (by decide) (by omega) (by omega) (fun c_18 => ?_) (fun c_18 => ?_)
  · exfalso; omega
  · refine m_iload_n hC dX1_closes_21 5 rfl ?_
    refine m_iconst (v := 5) hC dX1_closes_22 (by decide) ?_
    refine m_icmp_lt (tgt := 43) hC dX1_closes_23 (by decide) (by omega) (by omega) (fun c_23 => ?_) (fun c_23 => ?_)
    · refine m_iload hC dX1_closes_43 1 rfl ?_
      refine m_iconst (v := 1) hC dX1_closes_45 (by decide) ?_
      refine m_iadd hC dX1_closes_46 ?_
      refine m_istore hC dX1_closes_47 (fun z9 => [(6, .int (z32 z9)), (5, .int (z32 v5_14)), (4, .int (z32 v4_5)), (0, .ref (g.2.2 15)), (1, .ref (g.2.2 6)), (2, .int (z32 z)), (3, .int (z32 len))]) (by decide) (fun _ => rfl) (fun v6_47 hv6_47 => ?_)
      have L49 : ∀ (n49 : Nat) (y : Int) (S1 : Mem), 8 - y < (n49 : Int) → clI S n 1 y S1 → v4_5 + 1 ≤ y → y ≤ 8 → MW C g 7 (0, 0) 49 [(0, .ref (g.2.2 15)), (1, .ref (g.2.2 6)), (2, .int (z32 z)), (3, .int (z32 len)), (4, .int (z32 v4_5)), (5, .int (z32 v5_14)), (6, .int (z32 y))] [] S1 := by
        intro n49
        induction n49 with
        | zero => intros; exfalso; omega
        | succ n49 ih49 =>
          intro y S1 hm49 hI hy1 hy2
          have hm := clI_mem hI
          have hA : anyI (fun k => decide (pth S1 k = y)) n = anyI (fun k => decide (pth S k = y)) n := anyI_cong (fun k k0 k1 => by rw [hm.2.2.2.2.2 k k0 k1])
          have hc1 : 0 ≤ S1 15 1 ∧ S1 15 1 < 57 := by rw [hm.2.2.1]; exact hc
          have hst := cl_set hI hn
          refine m_iload hC dX1_closes_49 6 rfl ?_
          refine m_bipush (v := 8) hC dX1_closes_51 (by decide) ?_
          refine m_icmp_ge (tgt := 104) hC dX1_closes_53 (by decide) (by omega) (by omega) (fun c_53 => ?_) (fun c_53 => ?_)
          · refine m_iconst (v := 0) hC dX1_closes_104 (by decide) ?_
            refine m_iretx hC hR (Or.inr ⟨rfl, Or.inl rfl⟩) dX1_closes_105 ⟨Nat.le_of_ble_eq_true rfl, Nat.le_of_ble_eq_true rfl⟩ ?_
            exact cl_end (by rw [show (8 : Int) = y by omega]; exact hI)
          · refine m_aload_n hC dX1_closes_56 1 rfl ?_
            refine m_iload hC dX1_closes_57 5 rfl ?_
            refine m_iload hC dX1_closes_59 6 rfl ?_
            refine m_callVi (n := 2) hC (c_open9 (by omega) (by omega)) gX1_closes_X0_open rfl dX1_closes_61 rfl rfl (by decide +kernel) ⟨Nat.le_of_ble_eq_true rfl, Nat.le_of_ble_eq_true rfl⟩ rfl (Nat.le_of_ble_eq_true rfl) ⟨Nat.le_of_ble_eq_true rfl, Nat.le_of_ble_eq_true rfl⟩ rfl ?_
            refine m_if_le (tgt := 98) hC dX1_closes_64 (by decide) (by rw [hm.1, hm.2.1]; have h9 := hO v5_14 y; rw [opn_ix (by omega) (by omega)] at h9; exact h9) (fun c_64 => ?_) (fun c_64 => ?_)
            · have hN := clI_skip hI (by omega) (clF_no1 (r := 1) (y := y) hn (by rw [← hm.1, ← hm.2.1, ← hl, ← hv5_14]; omega))
              refine m_iinc hC dX1_closes_98 6 rfl (fun z9 => [(6, .int (z32 z9)), (0, .ref (g.2.2 15)), (1, .ref (g.2.2 6)), (2, .int (z32 z)), (3, .int (z32 len)), (4, .int (z32 v4_5)), (5, .int (z32 v5_14))]) (by decide) (fun _ => rfl) (fun v6_98 hv6_98 => ?_)
              refine m_goto (tgt := 49) hC dX1_closes_101 (by decide) ?_
              refine m_locals [1, 2, 3, 4, 5, 6, 0] rfl ?_
              exact ih49 v6_98 _ (by omega) (by rw [hv6_98]; exact hN) (by omega) (by omega)
            · have hG1 : 0 < S 8 (ix (pth S ((n : Int) - 1)) y) - S 10 (ix (pth S ((n : Int) - 1)) y) := by rw [← hm.1, ← hm.2.1, ← hl, ← hv5_14]; omega
              refine m_aload_n hC dX1_closes_67 0 rfl ?_
              refine m_iload hC dX1_closes_68 6 rfl ?_
              refine m_iload_n hC dX1_closes_70 3 rfl ?_
              refine m_callVi (n := 2) hC (c_X1_isSet hc1 hl (by omega) (by omega) (fun k k0 k1 => by rw [hm.2.2.2.2.2 k k0 k1]; have := hp k k0 k1; omega)) gX1_closes_X1_isSet rfl dX1_closes_71 rfl rfl (by decide +kernel) ⟨Nat.le_of_ble_eq_true rfl, Nat.le_of_ble_eq_true rfl⟩ rfl (Nat.le_of_ble_eq_true rfl) ⟨Nat.le_of_ble_eq_true rfl, Nat.le_of_ble_eq_true rfl⟩ rfl ?_
              refine m_if_ne (tgt := 98) hC dX1_closes_74 (by decide) (by have := bI_rng (anyI (fun k => decide (pth S1 k = y)) n); omega) (fun c_74 => ?_) (fun c_74 => ?_)
              · have hN := clI_skip hI (by omega) (clF_no2 (r := 1) (by rw [← hA]; exact bI_1 c_74))
                refine m_iinc hC dX1_closes_98 6 rfl (fun z9 => [(6, .int (z32 z9)), (0, .ref (g.2.2 15)), (1, .ref (g.2.2 6)), (2, .int (z32 z)), (3, .int (z32 len)), (4, .int (z32 v4_5)), (5, .int (z32 v5_14))]) (by decide) (fun _ => rfl) (fun v6_98 hv6_98 => ?_)
                refine m_goto (tgt := 49) hC dX1_closes_101 (by decide) ?_
                refine m_locals [1, 2, 3, 4, 5, 6, 0] rfl ?_
                exact ih49 v6_98 _ (by omega) (by rw [hv6_98]; exact hN) (by omega) (by omega)
              · have hA2 : anyI (fun k => decide (pth S k = y)) n = false := by rw [← hA]; exact bI_0 (Decidable.of_not_not c_74)
                refine m_aload_n hC dX1_closes_77 0 rfl ?_
                refine m_iload_n hC dX1_closes_78 3 rfl ?_
                refine m_iload hC dX1_closes_79 6 rfl ?_
                refine m_callVv (n := 2) hC (c_X1_setShopAt hc1 (by omega)) gX1_closes_X1_setShopAt rfl dX1_closes_81 rfl rfl (by decide +kernel) ⟨Nat.le_of_ble_eq_true rfl, Nat.le_of_ble_eq_true rfl⟩ rfl (Nat.le_of_ble_eq_true rfl) ⟨Nat.le_of_ble_eq_true rfl, Nat.le_of_ble_eq_true rfl⟩ rfl ?_
                refine m_aload_n hC dX1_closes_84 0 rfl ?_
                refine m_aload_n hC dX1_closes_85 1 rfl ?_
                refine m_iload_n hC dX1_closes_86 2 rfl ?_
                refine m_iload_n hC dX1_closes_87 3 rfl ?_
                refine m_iconst (v := 1) hC dX1_closes_88 (by decide) ?_
                refine m_iadd hC dX1_closes_89 ?_
                refine m_callSix (n := 4) hC (c_closes_1 (S := put17 S1 (2 + len) y) (n := n + 1) (z := z) (len := len + 1) hc1 (by omega) (by omega) (by omega) (by omega) (by rw [hl]; exact cl_rng hI hn hp (by omega)) (by show Ok (S1 8); rw [hm.1]; exact hok) (by show Fz (S1 8) (S1 10); rw [hm.1, hm.2.1]; exact hf)) gX1_closes_X1_closes rfl dX1_closes_90 (by decide +kernel) ⟨Nat.le_of_ble_eq_true rfl, Nat.le_of_ble_eq_true rfl⟩ rfl (Nat.le_of_ble_eq_true rfl) ⟨Nat.le_of_ble_eq_true rfl, Nat.le_of_ble_eq_true rfl⟩ rfl (fun v9 S3 hv9 => ?_)
                rw [hl] at hv9
                refine m_if_eq (tgt := 98) hC dX1_closes_93 (by decide) (by have := clP_v hv9; omega) (fun c_93 => ?_) (fun c_93 => ?_)
                · have hN := (cl_back hI hn (by omega) (by omega) hG1 hA2 hv9).1 c_93
                  refine m_iinc hC dX1_closes_98 6 rfl (fun z9 => [(6, .int (z32 z9)), (0, .ref (g.2.2 15)), (1, .ref (g.2.2 6)), (2, .int (z32 z)), (3, .int (z32 len)), (4, .int (z32 v4_5)), (5, .int (z32 v5_14))]) (by decide) (fun _ => rfl) (fun v6_98 hv6_98 => ?_)
                  refine m_goto (tgt := 49) hC dX1_closes_101 (by decide) ?_
                  refine m_locals [1, 2, 3, 4, 5, 6, 0] rfl ?_
                  exact ih49 v6_98 _ (by omega) (by rw [hv6_98]; exact hN) (by omega) (by omega)
                · refine m_iconst (v := 1) hC dX1_closes_96 (by decide) ?_
                  refine m_iretx hC hR (Or.inr ⟨rfl, Or.inr rfl⟩) dX1_closes_97 ⟨Nat.le_of_ble_eq_true rfl, Nat.le_of_ble_eq_true rfl⟩ ?_
                  exact (cl_back hI hn (by omega) (by omega) hG1 hA2 hv9).2 c_93
      refine m_locals [3, 4, 5, 6, 2, 1, 0] rfl ?_
      exact L49 9 v6_47 S (by omega) (by rw [hv6_47, hv4_5]; exact clI_0 hp0) (by omega) (by omega)
    · exfalso; omega
set_option maxHeartbeats 4000000 in
set_option maxRecDepth 100000 in
theorem c_closes_t3 {g : mG} {S : Mem} (hc : 0 ≤ S 15 1 ∧ S 15 1 < 57) {n : Nat} {z len : Int} (hl : len = n) (hz : z = (n : Int) + 3) (hn : 1 ≤ n) (h5 : n + 3 ≤ 5) (hp : ∀ k : Int, 0 ≤ k → k < n → 0 ≤ pth S k ∧ pth S k < 8) (hok : Ok (S 8)) (hf : Fz (S 8) (S 10)) (l : Launch) : Does l yX1_closes wsX1_closes ({ frames := 7, cells := 0, slots := 0, locals := 172 } : Room) g [.ref (g.2.2 15), .ref (g.2.2 6), .int (z32 z), .int (z32 len)] S (PIx (fun v S' => clP S n 3 v S')) := by
  refine Does.of (cc := cX1_closes) (maxL := 7) (ret := (some .boolean)) (own := RX1) (by decide) rfl rfl (Nat.le_of_ble_eq_true rfl) ?_
  intro C hC hR
  show MW C g 7 (0, 0) 0 [(0, .ref (g.2.2 15)), (1, .ref (g.2.2 6)), (2, .int (z32 z)), (3, .int (z32 len))] [] S
  have hO := opnOk_of hok hf
  have hp0 := hp 0 (by omega) (by omega)
  have hpl := hp (len - 1) (by omega) (by omega)
  refine m_aload_n hC dX1_closes_0 0 rfl ?_
  refine m_iconst (v := 0) hC dX1_closes_1 (by decide) ?_
  refine m_callVi (n := 1) hC (c_X1_shopAt hc (by omega)) gX1_closes_X1_shopAt rfl dX1_closes_2 rfl rfl (by decide +kernel) ⟨Nat.le_of_ble_eq_true rfl, Nat.le_of_ble_eq_true rfl⟩ rfl (Nat.le_of_ble_eq_true rfl) ⟨Nat.le_of_ble_eq_true rfl, Nat.le_of_ble_eq_true rfl⟩ rfl ?_
  refine m_istore hC dX1_closes_5 (fun z9 => [(4, .int (z32 z9)), (0, .ref (g.2.2 15)), (1, .ref (g.2.2 6)), (2, .int (z32 z)), (3, .int (z32 len))]) (by decide) (fun _ => rfl) (fun v4_5 hv4_5 => ?_)
  refine m_aload_n hC dX1_closes_7 1 rfl ?_
  refine m_iload_n hC dX1_closes_8 4 rfl ?_
  refine m_iconst (v := 1) hC dX1_closes_9 (by decide) ?_
  refine m_isub hC dX1_closes_10 ?_
  refine m_callVi (n := 1) hC (c_X1_shopAt hc (by omega)) gX1_closes_X1_shopAt rfl dX1_closes_11 rfl rfl (by decide +kernel) ⟨Nat.le_of_ble_eq_true rfl, Nat.le_of_ble_eq_true rfl⟩ rfl (Nat.le_of_ble_eq_true rfl) ⟨Nat.le_of_ble_eq_true rfl, Nat.le_of_ble_eq_true rfl⟩ rfl ?_
  refine m_istore hC dX1_closes_14 (fun z9 => [(5, .int (z32 z9)), (4, .int (z32 v4_5)), (0, .ref (g.2.2 15)), (1, .ref (g.2.2 6)), (2, .int (z32 z)), (3, .int (z32 len))]) (by decide) (fun _ => rfl) (fun v5_14 hv5_14 => ?_)
  refine m_iload_n hC dX1_closes_16 5 rfl ?_
  refine m_iload_n hC dX1_closes_17 4 rfl ?_
  refine m_icmp_ge (tgt := 26) hC dX1_closes_18 (by decide) (by omega) (by omega) (fun c_18 => ?_) (fun c_18 => ?_)
  · exfalso; omega
  · refine m_iload_n hC dX1_closes_21 5 rfl ?_
    refine m_iconst (v := 5) hC dX1_closes_22 (by decide) ?_
    refine m_icmp_lt (tgt := 43) hC dX1_closes_23 (by decide) (by omega) (by omega) (fun c_23 => ?_) (fun c_23 => ?_)
    · refine m_iload hC dX1_closes_43 1 rfl ?_
      refine m_iconst (v := 1) hC dX1_closes_45 (by decide) ?_
      refine m_iadd hC dX1_closes_46 ?_
      refine m_istore hC dX1_closes_47 (fun z9 => [(6, .int (z32 z9)), (5, .int (z32 v5_14)), (4, .int (z32 v4_5)), (0, .ref (g.2.2 15)), (1, .ref (g.2.2 6)), (2, .int (z32 z)), (3, .int (z32 len))]) (by decide) (fun _ => rfl) (fun v6_47 hv6_47 => ?_)
      have L49 : ∀ (n49 : Nat) (y : Int) (S1 : Mem), 8 - y < (n49 : Int) → clI S n 2 y S1 → v4_5 + 1 ≤ y → y ≤ 8 → MW C g 7 (0, 0) 49 [(0, .ref (g.2.2 15)), (1, .ref (g.2.2 6)), (2, .int (z32 z)), (3, .int (z32 len)), (4, .int (z32 v4_5)), (5, .int (z32 v5_14)), (6, .int (z32 y))] [] S1 := by
        intro n49
        induction n49 with
        | zero => intros; exfalso; omega
        | succ n49 ih49 =>
          intro y S1 hm49 hI hy1 hy2
          have hm := clI_mem hI
          have hA : anyI (fun k => decide (pth S1 k = y)) n = anyI (fun k => decide (pth S k = y)) n := anyI_cong (fun k k0 k1 => by rw [hm.2.2.2.2.2 k k0 k1])
          have hc1 : 0 ≤ S1 15 1 ∧ S1 15 1 < 57 := by rw [hm.2.2.1]; exact hc
          have hst := cl_set hI hn
          refine m_iload hC dX1_closes_49 6 rfl ?_
          refine m_bipush (v := 8) hC dX1_closes_51 (by decide) ?_
          refine m_icmp_ge (tgt := 104) hC dX1_closes_53 (by decide) (by omega) (by omega) (fun c_53 => ?_) (fun c_53 => ?_)
          · refine m_iconst (v := 0) hC dX1_closes_104 (by decide) ?_
            refine m_iretx hC hR (Or.inr ⟨rfl, Or.inl rfl⟩) dX1_closes_105 ⟨Nat.le_of_ble_eq_true rfl, Nat.le_of_ble_eq_true rfl⟩ ?_
            exact cl_end (by rw [show (8 : Int) = y by omega]; exact hI)
          · refine m_aload_n hC dX1_closes_56 1 rfl ?_
            refine m_iload hC dX1_closes_57 5 rfl ?_
            refine m_iload hC dX1_closes_59 6 rfl ?_
            refine m_callVi (n := 2) hC (c_open9 (by omega) (by omega)) gX1_closes_X0_open rfl dX1_closes_61 rfl rfl (by decide +kernel) ⟨Nat.le_of_ble_eq_true rfl, Nat.le_of_ble_eq_true rfl⟩ rfl (Nat.le_of_ble_eq_true rfl) ⟨Nat.le_of_ble_eq_true rfl, Nat.le_of_ble_eq_true rfl⟩ rfl ?_
            refine m_if_le (tgt := 98) hC dX1_closes_64 (by decide) (by rw [hm.1, hm.2.1]; have h9 := hO v5_14 y; rw [opn_ix (by omega) (by omega)] at h9; exact h9) (fun c_64 => ?_) (fun c_64 => ?_)
            · have hN := clI_skip hI (by omega) (clF_no1 (r := 2) (y := y) hn (by rw [← hm.1, ← hm.2.1, ← hl, ← hv5_14]; omega))
              refine m_iinc hC dX1_closes_98 6 rfl (fun z9 => [(6, .int (z32 z9)), (0, .ref (g.2.2 15)), (1, .ref (g.2.2 6)), (2, .int (z32 z)), (3, .int (z32 len)), (4, .int (z32 v4_5)), (5, .int (z32 v5_14))]) (by decide) (fun _ => rfl) (fun v6_98 hv6_98 => ?_)
              refine m_goto (tgt := 49) hC dX1_closes_101 (by decide) ?_
              refine m_locals [1, 2, 3, 4, 5, 6, 0] rfl ?_
              exact ih49 v6_98 _ (by omega) (by rw [hv6_98]; exact hN) (by omega) (by omega)
            · have hG1 : 0 < S 8 (ix (pth S ((n : Int) - 1)) y) - S 10 (ix (pth S ((n : Int) - 1)) y) := by rw [← hm.1, ← hm.2.1, ← hl, ← hv5_14]; omega
              refine m_aload_n hC dX1_closes_67 0 rfl ?_
              refine m_iload hC dX1_closes_68 6 rfl ?_
              refine m_iload_n hC dX1_closes_70 3 rfl ?_
              refine m_callVi (n := 2) hC (c_X1_isSet hc1 hl (by omega) (by omega) (fun k k0 k1 => by rw [hm.2.2.2.2.2 k k0 k1]; have := hp k k0 k1; omega)) gX1_closes_X1_isSet rfl dX1_closes_71 rfl rfl (by decide +kernel) ⟨Nat.le_of_ble_eq_true rfl, Nat.le_of_ble_eq_true rfl⟩ rfl (Nat.le_of_ble_eq_true rfl) ⟨Nat.le_of_ble_eq_true rfl, Nat.le_of_ble_eq_true rfl⟩ rfl ?_
              refine m_if_ne (tgt := 98) hC dX1_closes_74 (by decide) (by have := bI_rng (anyI (fun k => decide (pth S1 k = y)) n); omega) (fun c_74 => ?_) (fun c_74 => ?_)
              · have hN := clI_skip hI (by omega) (clF_no2 (r := 2) (by rw [← hA]; exact bI_1 c_74))
                refine m_iinc hC dX1_closes_98 6 rfl (fun z9 => [(6, .int (z32 z9)), (0, .ref (g.2.2 15)), (1, .ref (g.2.2 6)), (2, .int (z32 z)), (3, .int (z32 len)), (4, .int (z32 v4_5)), (5, .int (z32 v5_14))]) (by decide) (fun _ => rfl) (fun v6_98 hv6_98 => ?_)
                refine m_goto (tgt := 49) hC dX1_closes_101 (by decide) ?_
                refine m_locals [1, 2, 3, 4, 5, 6, 0] rfl ?_
                exact ih49 v6_98 _ (by omega) (by rw [hv6_98]; exact hN) (by omega) (by omega)
              · have hA2 : anyI (fun k => decide (pth S k = y)) n = false := by rw [← hA]; exact bI_0 (Decidable.of_not_not c_74)
                refine m_aload_n hC dX1_closes_77 0 rfl ?_
                refine m_iload_n hC dX1_closes_78 3 rfl ?_
                refine m_iload hC dX1_closes_79 6 rfl ?_
                refine m_callVv (n := 2) hC (c_X1_setShopAt hc1 (by omega)) gX1_closes_X1_setShopAt rfl dX1_closes_81 rfl rfl (by decide +kernel) ⟨Nat.le_of_ble_eq_true rfl, Nat.le_of_ble_eq_true rfl⟩ rfl (Nat.le_of_ble_eq_true rfl) ⟨Nat.le_of_ble_eq_true rfl, Nat.le_of_ble_eq_true rfl⟩ rfl ?_
                refine m_aload_n hC dX1_closes_84 0 rfl ?_
                refine m_aload_n hC dX1_closes_85 1 rfl ?_
                refine m_iload_n hC dX1_closes_86 2 rfl ?_
                refine m_iload_n hC dX1_closes_87 3 rfl ?_
                refine m_iconst (v := 1) hC dX1_closes_88 (by decide) ?_
                refine m_iadd hC dX1_closes_89 ?_
                refine m_callSix (n := 4) hC (c_closes_2 (S := put17 S1 (2 + len) y) (n := n + 1) (z := z) (len := len + 1) hc1 (by omega) (by omega) (by omega) (by omega) (by rw [hl]; exact cl_rng hI hn hp (by omega)) (by show Ok (S1 8); rw [hm.1]; exact hok) (by show Fz (S1 8) (S1 10); rw [hm.1, hm.2.1]; exact hf)) gX1_closes_X1_closes rfl dX1_closes_90 (by decide +kernel) ⟨Nat.le_of_ble_eq_true rfl, Nat.le_of_ble_eq_true rfl⟩ rfl (Nat.le_of_ble_eq_true rfl) ⟨Nat.le_of_ble_eq_true rfl, Nat.le_of_ble_eq_true rfl⟩ rfl (fun v9 S3 hv9 => ?_)
                rw [hl] at hv9
                refine m_if_eq (tgt := 98) hC dX1_closes_93 (by decide) (by have := clP_v hv9; omega) (fun c_93 => ?_) (fun c_93 => ?_)
                · have hN := (cl_back hI hn (by omega) (by omega) hG1 hA2 hv9).1 c_93
                  refine m_iinc hC dX1_closes_98 6 rfl (fun z9 => [(6, .int (z32 z9)), (0, .ref (g.2.2 15)), (1, .ref (g.2.2 6)), (2, .int (z32 z)), (3, .int (z32 len)), (4, .int (z32 v4_5)), (5, .int (z32 v5_14))]) (by decide) (fun _ => rfl) (fun v6_98 hv6_98 => ?_)
                  refine m_goto (tgt := 49) hC dX1_closes_101 (by decide) ?_
                  refine m_locals [1, 2, 3, 4, 5, 6, 0] rfl ?_
                  exact ih49 v6_98 _ (by omega) (by rw [hv6_98]; exact hN) (by omega) (by omega)
                · refine m_iconst (v := 1) hC dX1_closes_96 (by decide) ?_
                  refine m_iretx hC hR (Or.inr ⟨rfl, Or.inr rfl⟩) dX1_closes_97 ⟨Nat.le_of_ble_eq_true rfl, Nat.le_of_ble_eq_true rfl⟩ ?_
                  exact (cl_back hI hn (by omega) (by omega) hG1 hA2 hv9).2 c_93
      refine m_locals [3, 4, 5, 6, 2, 1, 0] rfl ?_
      exact L49 9 v6_47 S (by omega) (by rw [hv6_47, hv4_5]; exact clI_0 hp0) (by omega) (by omega)
    · exfalso; omega
theorem c_closes_any {g : mG} {S : Mem} (hc : 0 ≤ S 15 1 ∧ S 15 1 < 57) {z : Int} (hz : 2 ≤ z ∧ z ≤ 5) (hp : 0 ≤ pth S 0 ∧ pth S 0 < 8) (hok : Ok (S 8)) (hf : Fz (S 8) (S 10)) (l : Launch) : Does l yX1_closes wsX1_closes ({ frames := 7, cells := 0, slots := 0, locals := 172 } : Room) g [.ref (g.2.2 15), .ref (g.2.2 6), .int (z32 z), .int (z32 1)] S (PIx (fun v S' => clP S 1 (z - 1).toNat v S')) := by
  have hp1 : ∀ k : Int, 0 ≤ k → k < ((1 : Nat) : Int) → 0 ≤ pth S k ∧ pth S k < 8 := fun k k0 k1 => by
    rw [show k = 0 by omega]; exact hp
  rcases (show z = 2 ∨ z = 3 ∨ z = 4 ∨ z = 5 by omega) with rfl | rfl | rfl | rfl
  · exact c_closes_t1 (n := 1) hc (by omega) (by omega) (by omega) (by omega) hp1 hok hf l
  · exact c_closes_t2 (n := 1) hc (by omega) (by omega) (by omega) (by omega) hp1 hok hf l
  · exact c_closes_t3 (n := 1) hc (by omega) (by omega) (by omega) (by omega) hp1 hok hf l
  · exact c_closes_4 (n := 1) hc (by omega) (by omega) (by omega) (by omega) hp1 hok hf l
theorem iX1_find_1 : ∀ w ∈ wsX10, w ∈ wsX1_find := by decide +kernel
theorem fX1_find_16 : Cond.fieldLink RX1 16 "Mutualledger$Rings" "rows" "LMutualledger$Table;" ∈ wsX1_find := by decide +kernel
theorem fX1_find_20 : Cond.fieldLink RX1 20 "Mutualledger$Rings" "count" "I" ∈ wsX1_find := by decide +kernel
set_option maxHeartbeats 4000000 in
set_option maxRecDepth 100000 in
theorem c_X1_find {g : mG} {S : Mem} (hc : 0 ≤ S 15 1 ∧ S 15 1 < 57) (hok : Ok (S 8)) (hf : Fz (S 8) (S 10)) (l : Launch) : Does l yX1_find wsX1_find ({ frames := 8, cells := 0, slots := 0, locals := 198 } : Room) g [.ref (g.2.2 15), .ref (g.2.2 6)] S (PIx (fun v S' => fiP S v S')) := by
  refine Does.of (cc := cX1_find) (maxL := 4) (ret := (some .boolean)) (own := RX1) (by decide) rfl rfl (Nat.le_of_ble_eq_true rfl) ?_
  intro C hC hR
  show MW C g 4 (0, 0) 0 [(0, .ref (g.2.2 15)), (1, .ref (g.2.2 6))] [] S
  refine m_iconst (v := 2) hC dX1_find_0 (by decide) ?_
  refine m_istore_n hC dX1_find_1 (fun z9 => [(2, .int (z32 z9)), (0, .ref (g.2.2 15)), (1, .ref (g.2.2 6))]) (by decide) (fun _ => rfl) (fun v2_1 hv2_1 => ?_)
  have L2 : ∀ (n2 : Nat) (z : Int) (S1 : Mem), 6 - z < (n2 : Int) → fiI S z S1 → 2 ≤ z → z ≤ 6 → MW C g 4 (0, 0) 2 [(0, .ref (g.2.2 15)), (1, .ref (g.2.2 6)), (2, .int (z32 z))] [] S1 := by
    intro n2
    induction n2 with
    | zero => intros; exfalso; omega
    | succ n2 ih2 =>
      intro z S1 hm2 hI hz1 hz2
      have hm := fiI_mem hI
      have hc1 : 0 ≤ S1 15 1 ∧ S1 15 1 < 57 := by rw [hm.2.2]; exact hc
      refine m_iload_n hC dX1_find_2 2 rfl ?_
      refine m_iconst (v := 5) hC dX1_find_3 (by decide) ?_
      refine m_icmp_gt (tgt := 58) hC dX1_find_4 (by decide) (by omega) (by omega) (fun c_4 => ?_) (fun c_4 => ?_)
      · refine m_iconst (v := 0) hC dX1_find_58 (by decide) ?_
        refine m_iretx hC hR (Or.inr ⟨rfl, Or.inl rfl⟩) dX1_find_59 ⟨Nat.le_of_ble_eq_true rfl, Nat.le_of_ble_eq_true rfl⟩ ?_
        exact fi_end (by rw [show (6 : Int) = z by omega]; exact hI)
      · refine m_aload_n hC dX1_find_7 0 rfl ?_
        refine m_getR (o := 15) (j := 0) (a := 16) (CN := RX1) (T := TX1) (N := 2) hC iX1_find_1 fX1_find_16 rfl dX1_find_8 rfl rfl (by decide) rfl ?_
        refine m_aload_n hC dX1_find_11 0 rfl ?_
        refine m_getI (o := 15) (j := 1) (ji := 1) (CN := RX1) (T := TX1) (N := 2) hC iX1_find_1 fX1_find_20 rfl dX1_find_12 rfl rfl (by decide) rfl rfl ?_
        refine m_iconst (v := 0) hC dX1_find_15 (by decide) ?_
        refine m_iload_n hC dX1_find_16 2 rfl ?_
        refine m_callVv (n := 3) hC (c_set16 hc1 (by omega)) gX1_find_X2_set rfl dX1_find_17 rfl rfl (by decide +kernel) ⟨Nat.le_of_ble_eq_true rfl, Nat.le_of_ble_eq_true rfl⟩ rfl (Nat.le_of_ble_eq_true rfl) ⟨Nat.le_of_ble_eq_true rfl, Nat.le_of_ble_eq_true rfl⟩ rfl ?_
        refine m_iconst (v := 0) hC dX1_find_20 (by decide) ?_
        refine m_istore_n hC dX1_find_21 (fun z9 => [(3, .int (z32 z9)), (0, .ref (g.2.2 15)), (1, .ref (g.2.2 6)), (2, .int (z32 z))]) (by decide) (fun _ => rfl) (fun v3_21 hv3_21 => ?_)
        have L22 : ∀ (n22 : Nat) (y : Int) (S2 : Mem), 8 - y < (n22 : Int) → fjI S z y S2 → 0 ≤ y → y ≤ 8 → MW C g 4 (0, 0) 22 [(0, .ref (g.2.2 15)), (1, .ref (g.2.2 6)), (2, .int (z32 z)), (3, .int (z32 y))] [] S2 := by
          intro n22
          induction n22 with
          | zero => intros; exfalso; omega
          | succ n22 ih22 =>
            intro y S2 hm22 hJ hy1 hy2
            have hm2 := fjI_mem hJ
            have hc2 : 0 ≤ S2 15 1 ∧ S2 15 1 < 57 := by rw [hm2.2.2]; exact hc
            refine m_iload_n hC dX1_find_22 3 rfl ?_
            refine m_bipush (v := 8) hC dX1_find_23 (by decide) ?_
            refine m_icmp_ge (tgt := 52) hC dX1_find_25 (by decide) (by omega) (by omega) (fun c_25 => ?_) (fun c_25 => ?_)
            · refine m_iinc hC dX1_find_52 2 rfl (fun z9 => [(2, .int (z32 z9)), (0, .ref (g.2.2 15)), (1, .ref (g.2.2 6)), (3, .int (z32 y))]) (by decide) (fun _ => rfl) (fun v2_52 hv2_52 => ?_)
              refine m_goto (tgt := 2) hC dX1_find_55 (by decide) ?_
              refine m_locals [1, 2, 0] rfl ?_
              exact ih2 v2_52 _ (by omega) (by rw [hv2_52]; exact fi_next (by rw [show (8 : Int) = y by omega]; exact hJ)) (by omega) (by omega)
            · refine m_aload_n hC dX1_find_28 0 rfl ?_
              refine m_iconst (v := 0) hC dX1_find_29 (by decide) ?_
              refine m_iload_n hC dX1_find_30 3 rfl ?_
              refine m_callVv (n := 2) hC (c_X1_setShopAt hc2 (by omega)) gX1_find_X1_setShopAt rfl dX1_find_31 rfl rfl (by decide +kernel) ⟨Nat.le_of_ble_eq_true rfl, Nat.le_of_ble_eq_true rfl⟩ rfl (Nat.le_of_ble_eq_true rfl) ⟨Nat.le_of_ble_eq_true rfl, Nat.le_of_ble_eq_true rfl⟩ rfl ?_
              refine m_aload_n hC dX1_find_34 0 rfl ?_
              refine m_aload_n hC dX1_find_35 1 rfl ?_
              refine m_iload_n hC dX1_find_36 2 rfl ?_
              refine m_iconst (v := 1) hC dX1_find_37 (by decide) ?_
              refine m_callSix (n := 4) hC (c_closes_any (S := put17 S2 (2 + 0) y) (z := z) hc2 (by omega) (by rw [put17_at]; omega) (by show Ok (S2 8); rw [hm2.1]; exact hok) (by show Fz (S2 8) (S2 10); rw [hm2.1, hm2.2.1]; exact hf)) gX1_find_X1_closes rfl dX1_find_38 (by decide +kernel) ⟨Nat.le_of_ble_eq_true rfl, Nat.le_of_ble_eq_true rfl⟩ rfl (Nat.le_of_ble_eq_true rfl) ⟨Nat.le_of_ble_eq_true rfl, Nat.le_of_ble_eq_true rfl⟩ rfl (fun v9 S3 hv9 => ?_)
              refine m_if_eq (tgt := 46) hC dX1_find_41 (by decide) (by have := clP_v hv9; omega) (fun c_41 => ?_) (fun c_41 => ?_)
              · have hN := (fj_back hJ (by omega) hv9).1 c_41
                refine m_iinc hC dX1_find_46 3 rfl (fun z9 => [(3, .int (z32 z9)), (0, .ref (g.2.2 15)), (1, .ref (g.2.2 6)), (2, .int (z32 z))]) (by decide) (fun _ => rfl) (fun v3_46 hv3_46 => ?_)
                refine m_goto (tgt := 22) hC dX1_find_49 (by decide) ?_
                refine m_locals [1, 2, 3, 0] rfl ?_
                exact ih22 v3_46 _ (by omega) (by rw [hv3_46]; exact hN) (by omega) (by omega)
              · refine m_iconst (v := 1) hC dX1_find_44 (by decide) ?_
                refine m_iretx hC hR (Or.inr ⟨rfl, Or.inr rfl⟩) dX1_find_45 ⟨Nat.le_of_ble_eq_true rfl, Nat.le_of_ble_eq_true rfl⟩ ?_
                exact (fj_back hJ (by omega) hv9).2 c_41
        refine m_locals [1, 2, 3, 0] rfl ?_
        exact L22 9 v3_21 _ (by omega) (by rw [hv3_21]; exact fjI_0 hI (by omega)) (by omega) (by omega)
  refine m_locals [1, 2, 0] rfl ?_
  exact L2 5 v2_1 _ (by omega) (by rw [hv2_1]; exact fiI_0 S) (by omega) (by omega)
