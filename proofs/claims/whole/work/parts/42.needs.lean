/-! ===== the class: what the calls need ===== -/
theorem xaX4_needShop_198 : ∀ w ∈ (vx_atS RX4 198 xIOB ["java/lang/RuntimeException", "java/lang/Exception"]).filter goodWord, w ∈ wsX4_needShop := by decide +kernel
set_option maxHeartbeats 4000000 in
set_option maxRecDepth 100000 in
theorem c_X4_needShop {g : mG} {S : Mem} {s : Int} (hs : -2147483648 ≤ s ∧ s < 2147483648) (hg : Rg S) (l : Launch) : DoesX l yX4_needShop wsX4_needShop ({ frames := 6, cells := 1, slots := 6, locals := 90 } : Room) g [.ref (g.2.2 0), .int (z32 s)] S (XV (xnS S s) S) (XE (xnS S s) S) := by
  refine DoesX.of (cc := cX4_needShop) (maxL := 2) (ret := none) (own := RX4) (by decide) rfl rfl (Nat.le_of_ble_eq_true rfl) ?_
  intro C hC hX hR
  show MW C g 2 (0, 0) 0 [(0, .ref (g.2.2 0)), (1, .int (z32 s))] [] S
  refine m_aload_n hC dX4_needShop_0 0 rfl ?_
  refine m_iload_n hC dX4_needShop_1 1 rfl ?_
  refine m_callVi (n := 1) hC (c_X4_isShop hs hg) gX4_needShop_X4_isShop rfl dX4_needShop_2 rfl rfl (by decide +kernel) ⟨Nat.le_of_ble_eq_true rfl, Nat.le_of_ble_eq_true rfl⟩ rfl (Nat.le_of_ble_eq_true rfl) ⟨Nat.le_of_ble_eq_true rfl, Nat.le_of_ble_eq_true rfl⟩ rfl ?_
  refine m_if_ne (tgt := 18) hC dX4_needShop_5 (by decide) (bI_32 _) (fun c_5 => ?_) (fun c_5 => ?_)
  · have b_5 := bI_1 c_5
    exact x_vret hC hR dX4_needShop_18 ⟨Nat.le_of_ble_eq_true rfl, Nat.le_of_ble_eq_true rfl⟩ ⟨(by unfold xnS; rw [if_pos b_5]), rfl, rfl⟩
  · have b_5 := bI_0 (Decidable.of_not_not c_5)
    refine x_throw (cls := xIOB) (text := "there is no such shop") hC hX hR (by decide +kernel) (by decide +kernel) (by decide +kernel) xaX4_needShop_198 xb_198 (by decide) xg_198 dX4_needShop_8 dX4_needShop_11 dX4_needShop_12 dX4_needShop_14 dX4_needShop_17 (Nat.lt_of_lt_of_le (by decide : 5 < 6) (Nat.le_of_ble_eq_true rfl)) (Nat.le_of_ble_eq_true rfl) ⟨Nat.le_of_ble_eq_true rfl, Nat.le_of_ble_eq_true rfl⟩ ?_
    exact XE1 (by unfold xnS; rw [if_neg (by rw [b_5]; decide)])
theorem xaX4_needShopEver_198 : ∀ w ∈ (vx_atS RX4 198 xIOB ["java/lang/RuntimeException", "java/lang/Exception"]).filter goodWord, w ∈ wsX4_needShopEver := by decide +kernel
set_option maxHeartbeats 4000000 in
set_option maxRecDepth 100000 in
theorem c_X4_needShopEver {g : mG} {S : Mem} {s : Int} (hs : -2147483648 ≤ s ∧ s < 2147483648) (hg : Rg S) (l : Launch) : DoesX l yX4_needShopEver wsX4_needShopEver ({ frames := 6, cells := 1, slots := 6, locals := 90 } : Room) g [.ref (g.2.2 0), .int (z32 s)] S (XV (xnW S s) S) (XE (xnW S s) S) := by
  refine DoesX.of (cc := cX4_needShopEver) (maxL := 2) (ret := none) (own := RX4) (by decide) rfl rfl (Nat.le_of_ble_eq_true rfl) ?_
  intro C hC hX hR
  show MW C g 2 (0, 0) 0 [(0, .ref (g.2.2 0)), (1, .int (z32 s))] [] S
  refine m_aload_n hC dX4_needShopEver_0 0 rfl ?_
  refine m_iload_n hC dX4_needShopEver_1 1 rfl ?_
  refine m_callVi (n := 1) hC (c_X4_wasShop hs hg) gX4_needShopEver_X4_wasShop rfl dX4_needShopEver_2 rfl rfl (by decide +kernel) ⟨Nat.le_of_ble_eq_true rfl, Nat.le_of_ble_eq_true rfl⟩ rfl (Nat.le_of_ble_eq_true rfl) ⟨Nat.le_of_ble_eq_true rfl, Nat.le_of_ble_eq_true rfl⟩ rfl ?_
  refine m_if_ne (tgt := 18) hC dX4_needShopEver_5 (by decide) (bI_32 _) (fun c_5 => ?_) (fun c_5 => ?_)
  · have b_5 := bI_1 c_5
    exact x_vret hC hR dX4_needShopEver_18 ⟨Nat.le_of_ble_eq_true rfl, Nat.le_of_ble_eq_true rfl⟩ ⟨(by unfold xnW; rw [if_pos b_5]), rfl, rfl⟩
  · have b_5 := bI_0 (Decidable.of_not_not c_5)
    refine x_throw (cls := xIOB) (text := "there was no such shop") hC hX hR (by decide +kernel) (by decide +kernel) (by decide +kernel) xaX4_needShopEver_198 xb_198 (by decide) xg_198 dX4_needShopEver_8 dX4_needShopEver_11 dX4_needShopEver_12 dX4_needShopEver_14 dX4_needShopEver_17 (Nat.lt_of_lt_of_le (by decide : 5 < 6) (Nat.le_of_ble_eq_true rfl)) (Nat.le_of_ble_eq_true rfl) ⟨Nat.le_of_ble_eq_true rfl, Nat.le_of_ble_eq_true rfl⟩ ?_
    exact XE1 (by unfold xnW; rw [if_neg (by rw [b_5]; decide)])
set_option maxHeartbeats 4000000 in
set_option maxRecDepth 100000 in
theorem c_X4_needShopEverOrHouse {g : mG} {S : Mem} {s : Int} (hs : -2147483648 ≤ s ∧ s < 2147483648) (hg : Rg S) (l : Launch) : DoesX l yX4_needShopEverOrHouse wsX4_needShopEverOrHouse ({ frames := 7, cells := 1, slots := 6, locals := 111 } : Room) g [.ref (g.2.2 0), .int (z32 s)] S (XV (xnH S s) S) (XE (xnH S s) S) := by
  refine DoesX.of (cc := cX4_needShopEverOrHouse) (maxL := 2) (ret := none) (own := RX4) (by decide) rfl rfl (Nat.le_of_ble_eq_true rfl) ?_
  intro C hC hX hR
  show MW C g 2 (0, 0) 0 [(0, .ref (g.2.2 0)), (1, .int (z32 s))] [] S
  refine m_iload_n hC dX4_needShopEverOrHouse_0 1 rfl ?_
  refine m_bipush (v := 8) hC dX4_needShopEverOrHouse_1 (by decide) ?_
  refine m_icmp_eq (tgt := 11) hC dX4_needShopEverOrHouse_3 (by decide) (by omega) (by omega) (fun c_3 => ?_) (fun c_3 => ?_)
  · exact x_vret hC hR dX4_needShopEverOrHouse_11 ⟨Nat.le_of_ble_eq_true rfl, Nat.le_of_ble_eq_true rfl⟩ ⟨(by unfold xnH; first | (rw [if_pos (by omega)]; done) | (rw [if_neg (by omega)]; assumption)), rfl, rfl⟩
  · refine m_aload_n hC dX4_needShopEverOrHouse_6 0 rfl ?_
    refine m_iload_n hC dX4_needShopEverOrHouse_7 1 rfl ?_
    refine x_callVv (n := 1) hC hX hR (c_X4_needShopEver hs hg) gX4_needShopEverOrHouse_X4_needShopEver rfl dX4_needShopEverOrHouse_8 rfl rfl (by decide +kernel) ⟨Nat.le_of_ble_eq_true rfl, Nat.le_of_ble_eq_true rfl⟩ rfl (Nat.le_of_ble_eq_true rfl) ⟨Nat.le_of_ble_eq_true rfl, Nat.le_of_ble_eq_true rfl⟩ rfl (fun E9 S9 q9 => by rw [show xnH S s = xnW S s from if_neg (by omega)]; exact q9) (fun x_8 => ?_)
    exact x_vret hC hR dX4_needShopEverOrHouse_11 ⟨Nat.le_of_ble_eq_true rfl, Nat.le_of_ble_eq_true rfl⟩ ⟨(by unfold xnH; first | (rw [if_pos (by omega)]; done) | (rw [if_neg (by omega)]; assumption)), rfl, rfl⟩
theorem iX4_needTrade_4 : ∀ w ∈ wsX40, w ∈ wsX4_needTrade := by decide +kernel
theorem fX4_needTrade_21 : Cond.fieldLink RX4 21 "Mutualledger" "trades" "LMutualledger$Trades;" ∈ wsX4_needTrade := by decide +kernel
theorem xaX4_needTrade_198 : ∀ w ∈ (vx_atS RX4 198 xIOB ["java/lang/RuntimeException", "java/lang/Exception"]).filter goodWord, w ∈ wsX4_needTrade := by decide +kernel
set_option maxHeartbeats 4000000 in
set_option maxRecDepth 100000 in
theorem c_X4_needTrade {g : mG} {S : Mem} {t : Int} (ht : -2147483648 ≤ t ∧ t < 2147483648) (hg : Rg S) (l : Launch) : DoesX l yX4_needTrade wsX4_needTrade ({ frames := 6, cells := 1, slots := 6, locals := 90 } : Room) g [.ref (g.2.2 0), .int (z32 t)] S (XV (xnT S t) S) (XE (xnT S t) S) := by
  refine DoesX.of (cc := cX4_needTrade) (maxL := 2) (ret := none) (own := RX4) (by decide) rfl rfl (Nat.le_of_ble_eq_true rfl) ?_
  intro C hC hX hR
  show MW C g 2 (0, 0) 0 [(0, .ref (g.2.2 0)), (1, .int (z32 t))] [] S
  obtain ⟨h1, h2, h3, h4, h5, h6⟩ := hg
  refine m_aload_n hC dX4_needTrade_0 0 rfl ?_
  refine m_getR (o := 0) (j := 1) (a := 3) (CN := RX4) (T := TX4) (N := 9) hC iX4_needTrade_4 fX4_needTrade_21 rfl dX4_needTrade_1 rfl rfl (by decide) rfl ?_
  refine m_iload_n hC dX4_needTrade_4 1 rfl ?_
  refine m_callVi (n := 1) hC (c_X3_has ht (by omega)) gX4_needTrade_X3_has rfl dX4_needTrade_5 rfl rfl (by decide +kernel) ⟨Nat.le_of_ble_eq_true rfl, Nat.le_of_ble_eq_true rfl⟩ rfl (Nat.le_of_ble_eq_true rfl) ⟨Nat.le_of_ble_eq_true rfl, Nat.le_of_ble_eq_true rfl⟩ rfl ?_
  refine m_if_ne (tgt := 21) hC dX4_needTrade_8 (by decide) (bI_32 _) (fun c_8 => ?_) (fun c_8 => ?_)
  · have b_8 := bI_1 c_8
    exact x_vret hC hR dX4_needTrade_21 ⟨Nat.le_of_ble_eq_true rfl, Nat.le_of_ble_eq_true rfl⟩ ⟨(by unfold xnT; rw [if_pos b_8]), rfl, rfl⟩
  · have b_8 := bI_0 (Decidable.of_not_not c_8)
    refine x_throw (cls := xIOB) (text := "there is no such trade") hC hX hR (by decide +kernel) (by decide +kernel) (by decide +kernel) xaX4_needTrade_198 xb_198 (by decide) xg_198 dX4_needTrade_11 dX4_needTrade_14 dX4_needTrade_15 dX4_needTrade_17 dX4_needTrade_20 (Nat.lt_of_lt_of_le (by decide : 5 < 6) (Nat.le_of_ble_eq_true rfl)) (Nat.le_of_ble_eq_true rfl) ⟨Nat.le_of_ble_eq_true rfl, Nat.le_of_ble_eq_true rfl⟩ ?_
    exact XE1 (by unfold xnT; rw [if_neg (by rw [b_8]; decide)])
theorem xaX4_needRange_216 : ∀ w ∈ (vx_atS RX4 216 xIAE ["java/lang/RuntimeException", "java/lang/Exception"]).filter goodWord, w ∈ wsX4_needRange := by decide +kernel
set_option maxHeartbeats 4000000 in
set_option maxRecDepth 100000 in
theorem c_X4_needRange {g : mG} {S : Mem} {v : Int} (hv : -2147483648 ≤ v ∧ v < 2147483648) {a : Int} (ha : -2147483648 ≤ a ∧ a < 2147483648) {b : Int} (hb : -2147483648 ≤ b ∧ b < 2147483648) (l : Launch) : DoesX l yX4_needRange wsX4_needRange ({ frames := 6, cells := 1, slots := 6, locals := 90 } : Room) g [.int (z32 v), .int (z32 a), .int (z32 b)] S (XV (xnR v a b) S) (XE (xnR v a b) S) := by
  refine DoesX.of (cc := cX4_needRange) (maxL := 3) (ret := none) (own := RX4) (by decide) rfl rfl (Nat.le_of_ble_eq_true rfl) ?_
  intro C hC hX hR
  show MW C g 3 (0, 0) 0 [(0, .int (z32 v)), (1, .int (z32 a)), (2, .int (z32 b))] [] S
  refine m_iload_n hC dX4_needRange_0 0 rfl ?_
  refine m_iload_n hC dX4_needRange_1 1 rfl ?_
  refine m_icmp_lt (tgt := 10) hC dX4_needRange_2 (by decide) (by omega) (by omega) (fun c_2 => ?_) (fun c_2 => ?_)
  · refine x_throw (cls := xIAE) (text := "a number is out of range") hC hX hR (by decide +kernel) (by decide +kernel) (by decide +kernel) xaX4_needRange_216 xb_216 (by decide) xg_216 dX4_needRange_10 dX4_needRange_13 dX4_needRange_14 dX4_needRange_16 dX4_needRange_19 (Nat.lt_of_lt_of_le (by decide : 5 < 6) (Nat.le_of_ble_eq_true rfl)) (Nat.le_of_ble_eq_true rfl) ⟨Nat.le_of_ble_eq_true rfl, Nat.le_of_ble_eq_true rfl⟩ ?_
    exact XE2 (by unfold xnR; rw [if_neg (by omega)])
  · refine m_iload_n hC dX4_needRange_5 0 rfl ?_
    refine m_iload_n hC dX4_needRange_6 2 rfl ?_
    refine m_icmp_le (tgt := 20) hC dX4_needRange_7 (by decide) (by omega) (by omega) (fun c_7 => ?_) (fun c_7 => ?_)
    · exact x_vret hC hR dX4_needRange_20 ⟨Nat.le_of_ble_eq_true rfl, Nat.le_of_ble_eq_true rfl⟩ ⟨(by unfold xnR; rw [if_pos (by omega)]), rfl, rfl⟩
    · refine x_throw (cls := xIAE) (text := "a number is out of range") hC hX hR (by decide +kernel) (by decide +kernel) (by decide +kernel) xaX4_needRange_216 xb_216 (by decide) xg_216 dX4_needRange_10 dX4_needRange_13 dX4_needRange_14 dX4_needRange_16 dX4_needRange_19 (Nat.lt_of_lt_of_le (by decide : 5 < 6) (Nat.le_of_ble_eq_true rfl)) (Nat.le_of_ble_eq_true rfl) ⟨Nat.le_of_ble_eq_true rfl, Nat.le_of_ble_eq_true rfl⟩ ?_
      exact XE2 (by unfold xnR; rw [if_neg (by omega)])
theorem xaX4_needUnlike_216 : ∀ w ∈ (vx_atS RX4 216 xIAE ["java/lang/RuntimeException", "java/lang/Exception"]).filter goodWord, w ∈ wsX4_needUnlike := by decide +kernel
set_option maxHeartbeats 4000000 in
set_option maxRecDepth 100000 in
theorem c_X4_needUnlike {g : mG} {S : Mem} {a : Int} (ha : -2147483648 ≤ a ∧ a < 2147483648) {b : Int} (hb : -2147483648 ≤ b ∧ b < 2147483648) (l : Launch) : DoesX l yX4_needUnlike wsX4_needUnlike ({ frames := 6, cells := 1, slots := 6, locals := 90 } : Room) g [.int (z32 a), .int (z32 b)] S (XV (xnU a b) S) (XE (xnU a b) S) := by
  refine DoesX.of (cc := cX4_needUnlike) (maxL := 2) (ret := none) (own := RX4) (by decide) rfl rfl (Nat.le_of_ble_eq_true rfl) ?_
  intro C hC hX hR
  show MW C g 2 (0, 0) 0 [(0, .int (z32 a)), (1, .int (z32 b))] [] S
  refine m_iload_n hC dX4_needUnlike_0 0 rfl ?_
  refine m_iload_n hC dX4_needUnlike_1 1 rfl ?_
  refine m_icmp_ne (tgt := 15) hC dX4_needUnlike_2 (by decide) (by omega) (by omega) (fun c_2 => ?_) (fun c_2 => ?_)
  · exact x_vret hC hR dX4_needUnlike_15 ⟨Nat.le_of_ble_eq_true rfl, Nat.le_of_ble_eq_true rfl⟩ ⟨(by unfold xnU; rw [if_pos (by omega)]), rfl, rfl⟩
  · refine x_throw (cls := xIAE) (text := "both shops are the same") hC hX hR (by decide +kernel) (by decide +kernel) (by decide +kernel) xaX4_needUnlike_216 xb_216 (by decide) xg_216 dX4_needUnlike_5 dX4_needUnlike_8 dX4_needUnlike_9 dX4_needUnlike_11 dX4_needUnlike_14 (Nat.lt_of_lt_of_le (by decide : 5 < 6) (Nat.le_of_ble_eq_true rfl)) (Nat.le_of_ble_eq_true rfl) ⟨Nat.le_of_ble_eq_true rfl, Nat.le_of_ble_eq_true rfl⟩ ?_
    exact XE2 (by unfold xnU; rw [if_neg (by omega)])
theorem iX4_needBearable_4 : ∀ w ∈ wsX40, w ∈ wsX4_needBearable := by decide +kernel
theorem fX4_needBearable_28 : Cond.fieldLink RX4 28 "Mutualledger" "debts" "LMutualledger$Debts;" ∈ wsX4_needBearable := by decide +kernel
theorem xaX4_needBearable_59 : ∀ w ∈ (vx_atS RX4 59 xISE ["java/lang/RuntimeException", "java/lang/Exception"]).filter goodWord, w ∈ wsX4_needBearable := by decide +kernel
set_option maxHeartbeats 4000000 in
set_option maxRecDepth 100000 in
theorem c_X4_needBearable {g : mG} {S : Mem} {s m : Int} (hs : 0 ≤ s ∧ s < 9) (hm : -100000 ≤ m ∧ m ≤ 100000) (hg : Rg S) (hok : Ok (S 8)) (hlr : -1000000 ≤ lim S s ∧ lim S s ≤ 1000000) (l : Launch) : DoesX l yX4_needBearable wsX4_needBearable ({ frames := 6, cells := 1, slots := 6, locals := 137 } : Room) g [.ref (g.2.2 0), .int (z32 s), .int (z32 m)] S (XV (xnB S s m) S) (XE (xnB S s m) S) := by
  refine DoesX.of (cc := cX4_needBearable) (maxL := 3) (ret := none) (own := RX4) (by decide) rfl rfl (Nat.le_of_ble_eq_true rfl) ?_
  intro C hC hX hR
  show MW C g 3 (0, 0) 0 [(0, .ref (g.2.2 0)), (1, .int (z32 s)), (2, .int (z32 m))] [] S
  have hbl := hok.bl hs
  refine m_aload_n hC dX4_needBearable_0 0 rfl ?_
  refine m_getR (o := 0) (j := 2) (a := 6) (CN := RX4) (T := TX4) (N := 9) hC iX4_needBearable_4 fX4_needBearable_28 rfl dX4_needBearable_1 rfl rfl (by decide) rfl ?_
  refine m_iload_n hC dX4_needBearable_4 1 rfl ?_
  refine m_callVi (n := 1) hC (c_bal9 hs) gX4_needBearable_X0_balanceOf rfl dX4_needBearable_5 rfl rfl (by decide +kernel) ⟨Nat.le_of_ble_eq_true rfl, Nat.le_of_ble_eq_true rfl⟩ rfl (Nat.le_of_ble_eq_true rfl) ⟨Nat.le_of_ble_eq_true rfl, Nat.le_of_ble_eq_true rfl⟩ rfl ?_
  refine m_aload_n hC dX4_needBearable_8 0 rfl ?_
  refine m_iload_n hC dX4_needBearable_9 1 rfl ?_
  refine m_callVi (n := 1) hC (c_X4_limitOf hs hg) gX4_needBearable_X4_limitOf rfl dX4_needBearable_10 rfl rfl (by decide +kernel) ⟨Nat.le_of_ble_eq_true rfl, Nat.le_of_ble_eq_true rfl⟩ rfl (Nat.le_of_ble_eq_true rfl) ⟨Nat.le_of_ble_eq_true rfl, Nat.le_of_ble_eq_true rfl⟩ rfl ?_
  refine m_iadd hC dX4_needBearable_13 ?_
  refine m_iload_n hC dX4_needBearable_14 2 rfl ?_
  refine m_isub hC dX4_needBearable_15 ?_
  refine m_if_ge (tgt := 29) hC dX4_needBearable_16 (by decide) (by omega) (fun c_16 => ?_) (fun c_16 => ?_)
  · exact x_vret hC hR dX4_needBearable_29 ⟨Nat.le_of_ble_eq_true rfl, Nat.le_of_ble_eq_true rfl⟩ ⟨(by unfold xnB; rw [if_pos (by omega)]), rfl, rfl⟩
  · refine x_throw (cls := xISE) (text := "the balance and the limit are too low") hC hX hR (by decide +kernel) (by decide +kernel) (by decide +kernel) xaX4_needBearable_59 xb_59 (by decide) xg_59 dX4_needBearable_19 dX4_needBearable_22 dX4_needBearable_23 dX4_needBearable_25 dX4_needBearable_28 (Nat.lt_of_lt_of_le (by decide : 5 < 6) (Nat.le_of_ble_eq_true rfl)) (Nat.le_of_ble_eq_true rfl) ⟨Nat.le_of_ble_eq_true rfl, Nat.le_of_ble_eq_true rfl⟩ ?_
    exact XE3 (by unfold xnB; rw [if_neg (by omega)])
set_option maxHeartbeats 4000000 in
set_option maxRecDepth 100000 in
theorem c_X4_needGuaranteeArguments {g : mG} {S : Mem} {f : Int} (hf : -2147483648 ≤ f ∧ f < 2147483648) {s : Int} (hs : -2147483648 ≤ s ∧ s < 2147483648) {a : Int} (ha : -2147483648 ≤ a ∧ a < 2147483648) (hg : Rg S) (l : Launch) : DoesX l yX4_needGuaranteeArguments wsX4_needGuaranteeArguments ({ frames := 7, cells := 4, slots := 24, locals := 112 } : Room) g [.ref (g.2.2 0), .int (z32 f), .int (z32 s), .int (z32 a)] S (XV (xnG S f s a) S) (XE (xnG S f s a) S) := by
  refine DoesX.of (cc := cX4_needGuaranteeArguments) (maxL := 4) (ret := none) (own := RX4) (by decide) rfl rfl (Nat.le_of_ble_eq_true rfl) ?_
  intro C hC hX hR
  show MW C g 4 (0, 0) 0 [(0, .ref (g.2.2 0)), (1, .int (z32 f)), (2, .int (z32 s)), (3, .int (z32 a))] [] S
  refine m_aload_n hC dX4_needGuaranteeArguments_0 0 rfl ?_
  refine m_iload_n hC dX4_needGuaranteeArguments_1 1 rfl ?_
  refine x_callVv (n := 1) hC hX hR (c_X4_needShop hf hg) gX4_needGuaranteeArguments_X4_needShop rfl dX4_needGuaranteeArguments_2 rfl rfl (by decide +kernel) ⟨Nat.le_of_ble_eq_true rfl, Nat.le_of_ble_eq_true rfl⟩ rfl (Nat.le_of_ble_eq_true rfl) ⟨Nat.le_of_ble_eq_true rfl, Nat.le_of_ble_eq_true rfl⟩ rfl (fun E9 S9 q9 => by unfold xnG; exact XE_l q9) (fun x_2 => ?_)
  refine m_aload_n hC dX4_needGuaranteeArguments_5 0 rfl ?_
  refine m_iload_n hC dX4_needGuaranteeArguments_6 2 rfl ?_
  refine x_callVv (n := 1) hC hX hR (c_X4_needShop hs hg) gX4_needGuaranteeArguments_X4_needShop rfl dX4_needGuaranteeArguments_7 rfl rfl (by decide +kernel) ⟨Nat.le_of_ble_eq_true rfl, Nat.le_of_ble_eq_true rfl⟩ rfl (Nat.le_of_ble_eq_true rfl) ⟨Nat.le_of_ble_eq_true rfl, Nat.le_of_ble_eq_true rfl⟩ rfl (fun E9 S9 q9 => by unfold xnG; rw [sq0 x_2]; exact XE_l q9) (fun x_7 => ?_)
  refine m_iload_n hC dX4_needGuaranteeArguments_10 3 rfl ?_
  refine m_iconst (v := 1) hC dX4_needGuaranteeArguments_11 (by decide) ?_
  refine m_sipush (v := 500) hC dX4_needGuaranteeArguments_12 (by decide) ?_
  refine x_callSv (n := 3) hC hX hR (c_X4_needRange ha (by omega) (by omega)) gX4_needGuaranteeArguments_X4_needRange rfl dX4_needGuaranteeArguments_15 (by decide +kernel) ⟨Nat.le_of_ble_eq_true rfl, Nat.le_of_ble_eq_true rfl⟩ rfl (Nat.le_of_ble_eq_true rfl) ⟨Nat.le_of_ble_eq_true rfl, Nat.le_of_ble_eq_true rfl⟩ rfl (fun E9 S9 q9 => by unfold xnG; rw [sq0 x_2, sq0 x_7]; exact XE_l q9) (fun x_15 => ?_)
  refine m_iload_n hC dX4_needGuaranteeArguments_18 1 rfl ?_
  refine m_iload_n hC dX4_needGuaranteeArguments_19 2 rfl ?_
  refine x_callSv (n := 2) hC hX hR (c_X4_needUnlike hf hs) gX4_needGuaranteeArguments_X4_needUnlike rfl dX4_needGuaranteeArguments_20 (by decide +kernel) ⟨Nat.le_of_ble_eq_true rfl, Nat.le_of_ble_eq_true rfl⟩ rfl (Nat.le_of_ble_eq_true rfl) ⟨Nat.le_of_ble_eq_true rfl, Nat.le_of_ble_eq_true rfl⟩ rfl (fun E9 S9 q9 => by unfold xnG; rw [sq0 x_2, sq0 x_7, sq0 x_15]; exact XE_l q9) (fun x_20 => ?_)
  exact x_vret hC hR dX4_needGuaranteeArguments_23 ⟨Nat.le_of_ble_eq_true rfl, Nat.le_of_ble_eq_true rfl⟩ ⟨(by unfold xnG; rw [sq0 x_2, sq0 x_7, sq0 x_15, sq0 x_20]), rfl, rfl⟩
