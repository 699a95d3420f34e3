/-! ===== the class: its public calls ===== -/
def b01 (p : Prop) (d : Decidable p) (k : Int) : Int := @ite _ p d 0 k
def rw8 (S : Mem) : Prop := ∀ t : Int, 0 ≤ t → t < S 3 1 → (0 ≤ trd S t 1 ∧ trd S t 1 < 8) ∧ (0 ≤ trd S t 2 ∧ trd S t 2 < 8)
def cxJoin (S : Mem) : Int := if S 0 6 < 8 then 0 else 3
def cxTrade (S : Mem) (b s a : Int) : Int := sq (xnS S b) (sq (xnS S s) (sq (xnR a 1 1000) (sq (xnU b s) (sq (if S 3 1 < 100 then 0 else 3) (sq (xnB S b a) 0)))))
def stTradeC (S : Mem) (b s a : Int) : Mem := putT (mput S 8 (adF (S 8) b s a)) (S 3 1) b s a (S 0 7)
def cxDisp (S : Mem) (t : Int) : Int := sq (xnT S t) (sq (if trd S t 0 = 0 ∧ liv S (trd S t 1) = true ∧ liv S (trd S t 2) = true then 0 else 3) 0)
def ptDC (S : Mem) (t : Int) : Int := mn (trd S t 3) (S 8 (ix (trd S t 1) (trd S t 2)) - S 10 (ix (trd S t 1) (trd S t 2)))
def turnC (S : Mem) (t z f : Int) : Mem := ts (ts S 5 100 6 t 0 z) 5 100 6 t 5 f
def stDispC (S : Mem) (t : Int) : Mem := turnC (mput S 10 (adF (S 10) (trd S t 1) (trd S t 2) (ptDC S t))) t 1 (ptDC S t)
def cxSett (S : Mem) (t : Int) : Int := sq (xnT S t) (sq (if trd S t 0 = 1 then 0 else 3) 0)
def st1C (S : Mem) (t z : Int) : Mem := turnC (mput S 10 (adF (S 10) (trd S t 1) (trd S t 2) (-(trd S t 5)))) t z 0
def moSC (S : Mem) (t z : Int) : Int := if z = 0 then 0 else trd (st1C S t 2) t 3 - trd S t 5
def stSettC (S : Mem) (t z : Int) : Mem := if z = 0 then st1C S t 0 else mput (mput (st1C S t 2) 8 (adF (st1C S t 2 8) (trd S t 1) (trd S t 2) (-(trd S t 5)))) 8 (adF (adF (st1C S t 2 8) (trd S t 1) (trd S t 2) (-(trd S t 5))) (trd S t 2) (trd S t 1) (trd (st1C S t 2) t 3 - trd S t 5))
def cxGuar (S : Mem) (f s a : Int) : Int := sq (xnG S f s a) (sq (if S 12 (ix f s) + a ≤ 1000 then 0 else 3) (sq (xnB S f a) 0))
def cxRevo (S : Mem) (f s a : Int) : Int := sq (xnG S f s a) (sq (if a ≤ S 12 (ix f s) then 0 else 3) (sq (xnB S s a) 0))
def cxLeav (S : Mem) (s : Int) : Int := sq (xnS S s) (sq (if anyI (fun t => isof S s t && decide (trd S t 0 = 1)) (S 3 1).toNat = true then 3 else 0) 0)
def cxFee (S : Mem) (x : Int) : Int := sq (xnR x 0 500) 0
def cxNight (x : Int) : Int := sq (xnR x 1 20) 0
def cxBal (S : Mem) (x : Int) : Int := sq (xnH S x) 0
def cxLim (S : Mem) (x : Int) : Int := sq (xnS S x) 0
def cxOwes (S : Mem) (x y : Int) : Int := sq (xnW S x) (sq (xnH S y) 0)
def cxTwo (S : Mem) (x y : Int) : Int := sq (xnW S x) (sq (xnW S y) 0)
def cxOne (S : Mem) (x : Int) : Int := sq (xnW S x) 0
def cxOfT (S : Mem) (t w : Int) : Int := sq (xnT S t) (sq (xnR w 0 5) 0)
def cxRing (S : Mem) (r w : Int) : Int := sq (if 0 ≤ r ∧ r < S 15 1 then 0 else 1) (sq (xnR w 0 6) 0)
theorem liv_in {S : Mem} {s : Int} (h : liv S s = true) (hg : Rg S) : 0 ≤ s ∧ s < 8 := by
  unfold liv was at h
  simp only [Bool.and_eq_true, decide_eq_true_eq] at h
  have := hg.1
  omega
theorem was_in {S : Mem} {s : Int} (h : was S s = true) (hg : Rg S) : 0 ≤ s ∧ s < 8 := by
  unfold was at h
  simp only [decide_eq_true_eq] at h
  have := hg.1
  omega
theorem xnH_in {S : Mem} {s : Int} (h : xnH S s = 0) (hg : Rg S) : 0 ≤ s ∧ s < 9 := by
  unfold xnH at h
  by_cases q : s = 8
  · omega
  · rw [if_neg q] at h
    have := was_in (xnW_in h) hg
    omega
theorem iX4_join_4 : ∀ w ∈ wsX40, w ∈ wsX4_join := by decide +kernel
theorem fX4_join_45 : Cond.fieldLink RX4 45 "Mutualledger" "joined" "I" ∈ wsX4_join := by decide +kernel
theorem xaX4_join_59 : ∀ w ∈ (vx_atS RX4 59 xISE ["java/lang/RuntimeException", "java/lang/Exception"]).filter goodWord, w ∈ wsX4_join := by decide +kernel
set_option maxHeartbeats 4000000 in
set_option maxRecDepth 100000 in
theorem c_X4_join {g : mG} {S : Mem} (hg : Rg S) (l : Launch) : DoesX l yX4_join wsX4_join ({ frames := 6, cells := 1, slots := 6, locals := 90 } : Room) g [.ref (g.2.2 0)] S (XI (cxJoin S) (S 0 6) (mset S 0 6 (S 0 6 + 1))) (XE (cxJoin S) S) := by
  refine DoesX.of (cc := cX4_join) (maxL := 1) (ret := (some .int)) (own := RX4) (by decide) rfl rfl (Nat.le_of_ble_eq_true rfl) ?_
  intro C hC hX hR
  show MW C g 1 (0, 0) 0 [(0, .ref (g.2.2 0))] [] S
  have hgg := hg
  obtain ⟨h1, h2, h3, h4, h5, h6⟩ := hgg
  refine m_aload_n hC dX4_join_0 0 rfl ?_
  refine m_getI (o := 0) (j := 6) (ji := 6) (CN := RX4) (T := TX4) (N := 9) hC iX4_join_4 fX4_join_45 rfl dX4_join_1 rfl rfl (by decide) rfl rfl ?_
  refine m_bipush (v := 8) hC dX4_join_4 (by decide) ?_
  refine m_icmp_lt (tgt := 19) hC dX4_join_6 (by decide) (by omega) (by omega) (fun c_6 => ?_) (fun c_6 => ?_)
  · refine m_aload_n hC dX4_join_19 0 rfl ?_
    refine m_dup hC dX4_join_20 rfl ?_
    refine m_getI (o := 0) (j := 6) (ji := 6) (CN := RX4) (T := TX4) (N := 9) hC iX4_join_4 fX4_join_45 rfl dX4_join_21 rfl rfl (by decide) rfl rfl ?_
    refine m_iconst (v := 1) hC dX4_join_24 (by decide) ?_
    refine m_iadd hC dX4_join_25 ?_
    refine m_putI (o := 0) (j := 6) (ji := 6) (CN := RX4) (T := TX4) (N := 9) hC iX4_join_4 fX4_join_45 rfl dX4_join_26 rfl rfl (by decide) rfl tyX4 tyX4_ok nmX4 rfl (by decide +kernel) rfl ?_
    refine m_aload_n hC dX4_join_29 0 rfl ?_
    refine m_getI (o := 0) (j := 6) (ji := 6) (CN := RX4) (T := TX4) (N := 9) hC iX4_join_4 fX4_join_45 rfl dX4_join_30 rfl rfl (by decide) rfl rfl ?_
    refine m_iconst (v := 1) hC dX4_join_33 (by decide) ?_
    refine m_isub hC dX4_join_34 ?_
    refine x_iret hC hR (Or.inl rfl) dX4_join_35 ⟨Nat.le_of_ble_eq_true rfl, Nat.le_of_ble_eq_true rfl⟩ (XI_mk (by unfold cxJoin; rw [if_pos (by omega)]) ?_ ?_)
    · rw [mset_hit]; omega
    · rfl
  · refine x_throw (cls := xISE) (text := "there were 8 shops") hC hX hR (by decide +kernel) (by decide +kernel) (by decide +kernel) xaX4_join_59 xb_59 (by decide) xg_59 dX4_join_9 dX4_join_12 dX4_join_13 dX4_join_15 dX4_join_18 (Nat.lt_of_lt_of_le (by decide : 5 < 6) (Nat.le_of_ble_eq_true rfl)) (Nat.le_of_ble_eq_true rfl) ⟨Nat.le_of_ble_eq_true rfl, Nat.le_of_ble_eq_true rfl⟩ ?_
    exact XE3 (by unfold cxJoin; rw [if_neg (by omega)])
theorem iX4_trade_4 : ∀ w ∈ wsX40, w ∈ wsX4_trade := by decide +kernel
theorem fX4_trade_21 : Cond.fieldLink RX4 21 "Mutualledger" "trades" "LMutualledger$Trades;" ∈ wsX4_trade := by decide +kernel
theorem fX4_trade_28 : Cond.fieldLink RX4 28 "Mutualledger" "debts" "LMutualledger$Debts;" ∈ wsX4_trade := by decide +kernel
theorem fX4_trade_49 : Cond.fieldLink RX4 49 "Mutualledger" "today" "I" ∈ wsX4_trade := by decide +kernel
theorem xaX4_trade_59 : ∀ w ∈ (vx_atS RX4 59 xISE ["java/lang/RuntimeException", "java/lang/Exception"]).filter goodWord, w ∈ wsX4_trade := by decide +kernel
set_option maxHeartbeats 4000000 in
set_option maxRecDepth 100000 in
theorem c_X4_trade {g : mG} {S : Mem} {b : Int} (hb : -2147483648 ≤ b ∧ b < 2147483648) {s : Int} (hs : -2147483648 ≤ s ∧ s < 2147483648) {a : Int} (ha : -2147483648 ≤ a ∧ a < 2147483648) (hg : Rg S) (hok : OkD (S 8)) (hfz : Fz (S 8) (S 10)) (hlr : ∀ s, 0 ≤ s → s < 9 → -1000000 ≤ lim S s ∧ lim S s ≤ 1000000) (l : Launch) : DoesX l yX4_trade wsX4_trade ({ frames := 7, cells := 5, slots := 30, locals := 159 } : Room) g [.ref (g.2.2 0), .int (z32 b), .int (z32 s), .int (z32 a)] S (XI (cxTrade S b s a) (S 3 1) (stTradeC S b s a)) (XE (cxTrade S b s a) S) := by
  refine DoesX.of (cc := cX4_trade) (maxL := 4) (ret := (some .int)) (own := RX4) (by decide) rfl rfl (Nat.le_of_ble_eq_true rfl) ?_
  intro C hC hX hR
  show MW C g 4 (0, 0) 0 [(0, .ref (g.2.2 0)), (1, .int (z32 b)), (2, .int (z32 s)), (3, .int (z32 a))] [] S
  have hgg := hg
  obtain ⟨h1, h2, h3, h4, h5, h6⟩ := hgg
  refine m_aload_n hC dX4_trade_0 0 rfl ?_
  refine m_iload_n hC dX4_trade_1 1 rfl ?_
  refine x_callVv (n := 1) hC hX hR (c_X4_needShop hb hg) gX4_trade_X4_needShop rfl dX4_trade_2 rfl rfl (by decide +kernel) ⟨Nat.le_of_ble_eq_true rfl, Nat.le_of_ble_eq_true rfl⟩ rfl (Nat.le_of_ble_eq_true rfl) ⟨Nat.le_of_ble_eq_true rfl, Nat.le_of_ble_eq_true rfl⟩ rfl (fun E9 S9 q9 => by unfold cxTrade; exact XE_l q9) (fun x_2 => ?_)
  have l1 := liv_in (xnS_in x_2) hg
  refine m_aload_n hC dX4_trade_5 0 rfl ?_
  refine m_iload_n hC dX4_trade_6 2 rfl ?_
  refine x_callVv (n := 1) hC hX hR (c_X4_needShop hs hg) gX4_trade_X4_needShop rfl dX4_trade_7 rfl rfl (by decide +kernel) ⟨Nat.le_of_ble_eq_true rfl, Nat.le_of_ble_eq_true rfl⟩ rfl (Nat.le_of_ble_eq_true rfl) ⟨Nat.le_of_ble_eq_true rfl, Nat.le_of_ble_eq_true rfl⟩ rfl (fun E9 S9 q9 => by unfold cxTrade; rw [sq0 x_2]; exact XE_l q9) (fun x_7 => ?_)
  have l2 := liv_in (xnS_in x_7) hg
  refine m_iload_n hC dX4_trade_10 3 rfl ?_
  refine m_iconst (v := 1) hC dX4_trade_11 (by decide) ?_
  refine m_sipush (v := 1000) hC dX4_trade_12 (by decide) ?_
  refine x_callSv (n := 3) hC hX hR (c_X4_needRange ha (by omega) (by omega)) gX4_trade_X4_needRange rfl dX4_trade_15 (by decide +kernel) ⟨Nat.le_of_ble_eq_true rfl, Nat.le_of_ble_eq_true rfl⟩ rfl (Nat.le_of_ble_eq_true rfl) ⟨Nat.le_of_ble_eq_true rfl, Nat.le_of_ble_eq_true rfl⟩ rfl (fun E9 S9 q9 => by unfold cxTrade; rw [sq0 x_2, sq0 x_7]; exact XE_l q9) (fun x_15 => ?_)
  have l3 := xnR_in x_15
  refine m_iload_n hC dX4_trade_18 1 rfl ?_
  refine m_iload_n hC dX4_trade_19 2 rfl ?_
  refine x_callSv (n := 2) hC hX hR (c_X4_needUnlike hb hs) gX4_trade_X4_needUnlike rfl dX4_trade_20 (by decide +kernel) ⟨Nat.le_of_ble_eq_true rfl, Nat.le_of_ble_eq_true rfl⟩ rfl (Nat.le_of_ble_eq_true rfl) ⟨Nat.le_of_ble_eq_true rfl, Nat.le_of_ble_eq_true rfl⟩ rfl (fun E9 S9 q9 => by unfold cxTrade; rw [sq0 x_2, sq0 x_7, sq0 x_15]; exact XE_l q9) (fun x_20 => ?_)
  refine m_aload_n hC dX4_trade_23 0 rfl ?_
  refine m_getR (o := 0) (j := 1) (a := 3) (CN := RX4) (T := TX4) (N := 9) hC iX4_trade_4 fX4_trade_21 rfl dX4_trade_24 rfl rfl (by decide) rfl ?_
  refine m_callVi (n := 0) hC (c_X3_isFull (by omega)) gX4_trade_X3_isFull rfl dX4_trade_27 rfl rfl (by decide +kernel) ⟨Nat.le_of_ble_eq_true rfl, Nat.le_of_ble_eq_true rfl⟩ rfl (Nat.le_of_ble_eq_true rfl) ⟨Nat.le_of_ble_eq_true rfl, Nat.le_of_ble_eq_true rfl⟩ rfl ?_
  refine m_if_eq (tgt := 43) hC dX4_trade_30 (by decide) (bI_32 _) (fun c_30 => ?_) (fun c_30 => ?_)
  · have b_30 := bI_0 c_30
    have y_30 : (if S 3 1 < 100 then (0 : Int) else 3) = 0 := if_pos (by have := of_decide_eq_false b_30; omega)
    refine m_aload_n hC dX4_trade_43 0 rfl ?_
    refine m_iload_n hC dX4_trade_44 1 rfl ?_
    refine m_iload_n hC dX4_trade_45 3 rfl ?_
    refine x_callVv (n := 2) hC hX hR (c_X4_needBearable (by omega) (by omega) hg hok.1 (hlr b (by omega) (by omega))) gX4_trade_X4_needBearable rfl dX4_trade_46 rfl rfl (by decide +kernel) ⟨Nat.le_of_ble_eq_true rfl, Nat.le_of_ble_eq_true rfl⟩ rfl (Nat.le_of_ble_eq_true rfl) ⟨Nat.le_of_ble_eq_true rfl, Nat.le_of_ble_eq_true rfl⟩ rfl (fun E9 S9 q9 => by unfold cxTrade; rw [sq0 x_2, sq0 x_7, sq0 x_15, sq0 x_20, sq0 y_30]; exact XE_l q9) (fun x_46 => ?_)
    refine m_aload_n hC dX4_trade_49 0 rfl ?_
    refine m_getR (o := 0) (j := 2) (a := 6) (CN := RX4) (T := TX4) (N := 9) hC iX4_trade_4 fX4_trade_28 rfl dX4_trade_50 rfl rfl (by decide) rfl ?_
    refine m_iload_n hC dX4_trade_53 1 rfl ?_
    refine m_iload_n hC dX4_trade_54 2 rfl ?_
    refine m_iload_n hC dX4_trade_55 3 rfl ?_
    refine m_callVv (n := 3) hC (c_more9 (by omega) (by omega)) gX4_trade_X0_more rfl dX4_trade_56 rfl rfl (by decide +kernel) ⟨Nat.le_of_ble_eq_true rfl, Nat.le_of_ble_eq_true rfl⟩ rfl (Nat.le_of_ble_eq_true rfl) ⟨Nat.le_of_ble_eq_true rfl, Nat.le_of_ble_eq_true rfl⟩ rfl ?_
    refine m_aload_n hC dX4_trade_59 0 rfl ?_
    refine m_getR (o := 0) (j := 1) (a := 3) (CN := RX4) (T := TX4) (N := 9) hC iX4_trade_4 fX4_trade_21 rfl dX4_trade_60 rfl rfl (by decide) rfl ?_
    refine m_iload_n hC dX4_trade_63 1 rfl ?_
    refine m_iload_n hC dX4_trade_64 2 rfl ?_
    refine m_iload_n hC dX4_trade_65 3 rfl ?_
    refine m_aload_n hC dX4_trade_66 0 rfl ?_
    refine m_getI (o := 0) (j := 7) (ji := 7) (CN := RX4) (T := TX4) (N := 9) hC iX4_trade_4 fX4_trade_49 rfl dX4_trade_67 rfl rfl (by decide) rfl rfl ?_
    refine m_callVi (n := 4) hC (c_X3_put (by show -2147483648 ≤ S 3 1 ∧ S 3 1 < 2147483648; omega)) gX4_trade_X3_put rfl dX4_trade_70 rfl rfl (by decide +kernel) ⟨Nat.le_of_ble_eq_true rfl, Nat.le_of_ble_eq_true rfl⟩ rfl (Nat.le_of_ble_eq_true rfl) ⟨Nat.le_of_ble_eq_true rfl, Nat.le_of_ble_eq_true rfl⟩ rfl ?_
    refine x_iret hC hR (Or.inl rfl) dX4_trade_73 ⟨Nat.le_of_ble_eq_true rfl, Nat.le_of_ble_eq_true rfl⟩ (XI_mk (by unfold cxTrade; rw [sq0 x_2, sq0 x_7, sq0 x_15, sq0 x_20, sq0 y_30, sq0 x_46]) ?_ ?_)
    · first | rfl | omega
    · rfl
  · have b_30 := bI_1 c_30
    refine x_throw (cls := xISE) (text := "there are 100 trades") hC hX hR (by decide +kernel) (by decide +kernel) (by decide +kernel) xaX4_trade_59 xb_59 (by decide) xg_59 dX4_trade_33 dX4_trade_36 dX4_trade_37 dX4_trade_39 dX4_trade_42 (Nat.lt_of_lt_of_le (by decide : 5 < 6) (Nat.le_of_ble_eq_true rfl)) (Nat.le_of_ble_eq_true rfl) ⟨Nat.le_of_ble_eq_true rfl, Nat.le_of_ble_eq_true rfl⟩ ?_
    unfold cxTrade
    rw [sq0 x_2, sq0 x_7, sq0 x_15, sq0 x_20]
    refine XE_l ?_
    exact XE3 (by rw [if_neg (by have := of_decide_eq_true b_30; omega)])
theorem iX4_dispute_4 : ∀ w ∈ wsX40, w ∈ wsX4_dispute := by decide +kernel
theorem fX4_dispute_21 : Cond.fieldLink RX4 21 "Mutualledger" "trades" "LMutualledger$Trades;" ∈ wsX4_dispute := by decide +kernel
theorem xaX4_dispute_59 : ∀ w ∈ (vx_atS RX4 59 xISE ["java/lang/RuntimeException", "java/lang/Exception"]).filter goodWord, w ∈ wsX4_dispute := by decide +kernel
theorem fX4_dispute_28 : Cond.fieldLink RX4 28 "Mutualledger" "debts" "LMutualledger$Debts;" ∈ wsX4_dispute := by decide +kernel
set_option maxHeartbeats 4000000 in
set_option maxRecDepth 100000 in
theorem c_X4_dispute {g : mG} {S : Mem} {t : Int} (ht : -2147483648 ≤ t ∧ t < 2147483648) (hg : Rg S) (hok : OkD (S 8)) (hfz : Fz (S 8) (S 10)) (l : Launch) : DoesX l yX4_dispute wsX4_dispute ({ frames := 7, cells := 2, slots := 12, locals := 111 } : Room) g [.ref (g.2.2 0), .int (z32 t)] S (XI (cxDisp S t) (ptDC S t) (stDispC S t)) (XE (cxDisp S t) S) := by
  refine DoesX.of (cc := cX4_dispute) (maxL := 5) (ret := (some .int)) (own := RX4) (by decide) rfl rfl (Nat.le_of_ble_eq_true rfl) ?_
  intro C hC hX hR
  show MW C g 5 (0, 0) 0 [(0, .ref (g.2.2 0)), (1, .int (z32 t))] [] S
  have hgg := hg
  obtain ⟨h1, h2, h3, h4, h5, h6⟩ := hgg
  refine m_aload_n hC dX4_dispute_0 0 rfl ?_
  refine m_iload_n hC dX4_dispute_1 1 rfl ?_
  refine x_callVv (n := 1) hC hX hR (c_X4_needTrade ht hg) gX4_dispute_X4_needTrade rfl dX4_dispute_2 rfl rfl (by decide +kernel) ⟨Nat.le_of_ble_eq_true rfl, Nat.le_of_ble_eq_true rfl⟩ rfl (Nat.le_of_ble_eq_true rfl) ⟨Nat.le_of_ble_eq_true rfl, Nat.le_of_ble_eq_true rfl⟩ rfl (fun E9 S9 q9 => by unfold cxDisp; exact XE_l q9) (fun x_2 => ?_)
  have l1 := xnT_in x_2
  refine m_aload_n hC dX4_dispute_5 0 rfl ?_
  refine m_getR (o := 0) (j := 1) (a := 3) (CN := RX4) (T := TX4) (N := 9) hC iX4_dispute_4 fX4_dispute_21 rfl dX4_dispute_6 rfl rfl (by decide) rfl ?_
  refine m_iload_n hC dX4_dispute_9 1 rfl ?_
  refine m_iconst (v := 1) hC dX4_dispute_10 (by decide) ?_
  refine m_callVi (n := 2) hC (c_X3_of ht (by omega)) gX4_dispute_X3_of rfl dX4_dispute_11 rfl rfl (by decide +kernel) ⟨Nat.le_of_ble_eq_true rfl, Nat.le_of_ble_eq_true rfl⟩ rfl (Nat.le_of_ble_eq_true rfl) ⟨Nat.le_of_ble_eq_true rfl, Nat.le_of_ble_eq_true rfl⟩ rfl ?_
  refine m_istore_n hC dX4_dispute_14 (fun z9 => [(2, .int (z32 z9)), (0, .ref (g.2.2 0)), (1, .int (z32 t))]) (by decide) (fun _ => rfl) (fun v2_14 hv2_14 => ?_)
  refine m_aload_n hC dX4_dispute_15 1 rfl ?_
  refine m_getR (o := 0) (j := 1) (a := 3) (CN := RX4) (T := TX4) (N := 9) hC iX4_dispute_4 fX4_dispute_21 rfl dX4_dispute_16 rfl rfl (by decide) rfl ?_
  refine m_iload_n hC dX4_dispute_19 2 rfl ?_
  refine m_iconst (v := 2) hC dX4_dispute_20 (by decide) ?_
  refine m_callVi (n := 2) hC (c_X3_of ht (by omega)) gX4_dispute_X3_of rfl dX4_dispute_21 rfl rfl (by decide +kernel) ⟨Nat.le_of_ble_eq_true rfl, Nat.le_of_ble_eq_true rfl⟩ rfl (Nat.le_of_ble_eq_true rfl) ⟨Nat.le_of_ble_eq_true rfl, Nat.le_of_ble_eq_true rfl⟩ rfl ?_
  refine m_istore_n hC dX4_dispute_24 (fun z9 => [(3, .int (z32 z9)), (2, .int (z32 v2_14)), (0, .ref (g.2.2 0)), (1, .int (z32 t))]) (by decide) (fun _ => rfl) (fun v3_24 hv3_24 => ?_)
  refine m_aload_n hC dX4_dispute_25 2 rfl ?_
  refine m_getR (o := 0) (j := 1) (a := 3) (CN := RX4) (T := TX4) (N := 9) hC iX4_dispute_4 fX4_dispute_21 rfl dX4_dispute_26 rfl rfl (by decide) rfl ?_
  refine m_iload_n hC dX4_dispute_29 3 rfl ?_
  refine m_iconst (v := 0) hC dX4_dispute_30 (by decide) ?_
  refine m_callVi (n := 2) hC (c_X3_of ht (by omega)) gX4_dispute_X3_of rfl dX4_dispute_31 rfl rfl (by decide +kernel) ⟨Nat.le_of_ble_eq_true rfl, Nat.le_of_ble_eq_true rfl⟩ rfl (Nat.le_of_ble_eq_true rfl) ⟨Nat.le_of_ble_eq_true rfl, Nat.le_of_ble_eq_true rfl⟩ rfl ?_
  refine m_if_ne (tgt := 53) hC dX4_dispute_34 (by decide) (by have := h6 t 0; omega) (fun c_34 => ?_) (fun c_34 => ?_)
  · refine x_throw (cls := xISE) (text := "the trade can't be disputed") hC hX hR (by decide +kernel) (by decide +kernel) (by decide +kernel) xaX4_dispute_59 xb_59 (by decide) xg_59 dX4_dispute_53 dX4_dispute_56 dX4_dispute_57 dX4_dispute_59 dX4_dispute_62 (Nat.lt_of_lt_of_le (by decide : 5 < 6) (Nat.le_of_ble_eq_true rfl)) (Nat.le_of_ble_eq_true rfl) ⟨Nat.le_of_ble_eq_true rfl, Nat.le_of_ble_eq_true rfl⟩ ?_
    unfold cxDisp
    rw [sq0 x_2]
    refine XE_l ?_
    exact XE3 (by rw [if_neg (fun q => by have q1 := q.1; have q2 := q.2.1; have q3 := q.2.2; first | omega | (rw [← hv2_14, b_42] at q2; exact absurd q2 (by decide)) | (rw [← hv3_24, b_50] at q3; exact absurd q3 (by decide)))])
  · refine m_aload_n hC dX4_dispute_37 2 rfl ?_
    refine m_iload_n hC dX4_dispute_38 1 rfl ?_
    refine m_callVi (n := 1) hC (c_X4_isShop (by have := h6 t 1; omega) hg) gX4_dispute_X4_isShop rfl dX4_dispute_39 rfl rfl (by decide +kernel) ⟨Nat.le_of_ble_eq_true rfl, Nat.le_of_ble_eq_true rfl⟩ rfl (Nat.le_of_ble_eq_true rfl) ⟨Nat.le_of_ble_eq_true rfl, Nat.le_of_ble_eq_true rfl⟩ rfl ?_
    refine m_if_eq (tgt := 53) hC dX4_dispute_42 (by decide) (bI_32 _) (fun c_42 => ?_) (fun c_42 => ?_)
    · have b_42 := bI_0 c_42
      refine x_throw (cls := xISE) (text := "the trade can't be disputed") hC hX hR (by decide +kernel) (by decide +kernel) (by decide +kernel) xaX4_dispute_59 xb_59 (by decide) xg_59 dX4_dispute_53 dX4_dispute_56 dX4_dispute_57 dX4_dispute_59 dX4_dispute_62 (Nat.lt_of_lt_of_le (by decide : 5 < 6) (Nat.le_of_ble_eq_true rfl)) (Nat.le_of_ble_eq_true rfl) ⟨Nat.le_of_ble_eq_true rfl, Nat.le_of_ble_eq_true rfl⟩ ?_
      unfold cxDisp
      rw [sq0 x_2]
      refine XE_l ?_
      exact XE3 (by rw [if_neg (fun q => by have q1 := q.1; have q2 := q.2.1; have q3 := q.2.2; first | omega | (rw [← hv2_14, b_42] at q2; exact absurd q2 (by decide)) | (rw [← hv3_24, b_50] at q3; exact absurd q3 (by decide)))])
    · have b_42 := bI_1 c_42
      refine m_aload_n hC dX4_dispute_45 2 rfl ?_
      refine m_iload_n hC dX4_dispute_46 0 rfl ?_
      refine m_callVi (n := 1) hC (c_X4_isShop (by have := h6 t 2; omega) hg) gX4_dispute_X4_isShop rfl dX4_dispute_47 rfl rfl (by decide +kernel) ⟨Nat.le_of_ble_eq_true rfl, Nat.le_of_ble_eq_true rfl⟩ rfl (Nat.le_of_ble_eq_true rfl) ⟨Nat.le_of_ble_eq_true rfl, Nat.le_of_ble_eq_true rfl⟩ rfl ?_
      refine m_if_ne (tgt := 63) hC dX4_dispute_50 (by decide) (bI_32 _) (fun c_50 => ?_) (fun c_50 => ?_)
      · have b_50 := bI_1 c_50
        have y_50 : (if trd S t 0 = 0 ∧ liv S (trd S t 1) = true ∧ liv S (trd S t 2) = true then (0 : Int) else 3) = 0 := if_pos ⟨by omega, by rw [← hv2_14]; exact b_42, by rw [← hv3_24]; exact b_50⟩
        have l2 := liv_in b_42 hg
        have l3 := liv_in b_50 hg
        have e1 := hok.1.ent (i := v2_14) (j := v3_24) (by omega) (by omega)
        have e2 := hfz v2_14 v3_24 (by omega) (by omega) (by omega) (by omega)
        have e3 := h6 t 3
        refine m_aload_n hC dX4_dispute_63 2 rfl ?_
        refine m_getR (o := 0) (j := 1) (a := 3) (CN := RX4) (T := TX4) (N := 9) hC iX4_dispute_4 fX4_dispute_21 rfl dX4_dispute_64 rfl rfl (by decide) rfl ?_
        refine m_iload_n hC dX4_dispute_67 3 rfl ?_
        refine m_iconst (v := 3) hC dX4_dispute_68 (by decide) ?_
        refine m_callVi (n := 2) hC (c_X3_of ht (by omega)) gX4_dispute_X3_of rfl dX4_dispute_69 rfl rfl (by decide +kernel) ⟨Nat.le_of_ble_eq_true rfl, Nat.le_of_ble_eq_true rfl⟩ rfl (Nat.le_of_ble_eq_true rfl) ⟨Nat.le_of_ble_eq_true rfl, Nat.le_of_ble_eq_true rfl⟩ rfl ?_
        refine m_aload_n hC dX4_dispute_72 2 rfl ?_
        refine m_getR (o := 0) (j := 2) (a := 6) (CN := RX4) (T := TX4) (N := 9) hC iX4_dispute_4 fX4_dispute_28 rfl dX4_dispute_73 rfl rfl (by decide) rfl ?_
        refine m_iload_n hC dX4_dispute_76 1 rfl ?_
        refine m_iload_n hC dX4_dispute_77 0 rfl ?_
        refine m_callVi (n := 2) hC (c_open9 (by omega) (by omega)) gX4_dispute_X0_open rfl dX4_dispute_78 rfl rfl (by decide +kernel) ⟨Nat.le_of_ble_eq_true rfl, Nat.le_of_ble_eq_true rfl⟩ rfl (Nat.le_of_ble_eq_true rfl) ⟨Nat.le_of_ble_eq_true rfl, Nat.le_of_ble_eq_true rfl⟩ rfl ?_
        refine m_min hC (by decide +kernel) (by decide +kernel) (by decide +kernel) (by decide +kernel) dX4_dispute_81 (Nat.le_of_ble_eq_true rfl) (Nat.le_of_ble_eq_true rfl) ⟨Nat.le_of_ble_eq_true rfl, Nat.le_of_ble_eq_true rfl⟩ (by omega) (by omega) ?_
        refine m_istore hC dX4_dispute_84 (fun z9 => [(4, .int (z32 z9)), (3, .int (z32 v3_24)), (2, .int (z32 v2_14)), (0, .ref (g.2.2 0)), (1, .int (z32 t))]) (by decide) (fun _ => rfl) (fun v4_84 hv4_84 => ?_)
        refine m_aload_n hC dX4_dispute_86 3 rfl ?_
        refine m_getR (o := 0) (j := 2) (a := 6) (CN := RX4) (T := TX4) (N := 9) hC iX4_dispute_4 fX4_dispute_28 rfl dX4_dispute_87 rfl rfl (by decide) rfl ?_
        refine m_iload_n hC dX4_dispute_90 2 rfl ?_
        refine m_iload_n hC dX4_dispute_91 1 rfl ?_
        refine m_iload hC dX4_dispute_92 0 rfl ?_
        refine m_callVv (n := 3) hC (c_freeze9 (by omega) (by omega)) gX4_dispute_X0_freeze rfl dX4_dispute_94 rfl rfl (by decide +kernel) ⟨Nat.le_of_ble_eq_true rfl, Nat.le_of_ble_eq_true rfl⟩ rfl (Nat.le_of_ble_eq_true rfl) ⟨Nat.le_of_ble_eq_true rfl, Nat.le_of_ble_eq_true rfl⟩ rfl ?_
        refine m_aload_n hC dX4_dispute_97 3 rfl ?_
        refine m_getR (o := 0) (j := 1) (a := 3) (CN := RX4) (T := TX4) (N := 9) hC iX4_dispute_4 fX4_dispute_21 rfl dX4_dispute_98 rfl rfl (by decide) rfl ?_
        refine m_iload_n hC dX4_dispute_101 4 rfl ?_
        refine m_iconst (v := 1) hC dX4_dispute_102 (by decide) ?_
        refine m_iload hC dX4_dispute_103 0 rfl ?_
        refine m_callVv (n := 3) hC (c_X3_turn ht) gX4_dispute_X3_turn rfl dX4_dispute_105 rfl rfl (by decide +kernel) ⟨Nat.le_of_ble_eq_true rfl, Nat.le_of_ble_eq_true rfl⟩ rfl (Nat.le_of_ble_eq_true rfl) ⟨Nat.le_of_ble_eq_true rfl, Nat.le_of_ble_eq_true rfl⟩ rfl ?_
        refine m_iload hC dX4_dispute_108 0 rfl ?_
        refine x_iret hC hR (Or.inl rfl) dX4_dispute_110 ⟨Nat.le_of_ble_eq_true rfl, Nat.le_of_ble_eq_true rfl⟩ (XI_mk (by unfold cxDisp; rw [sq0 x_2, sq0 y_50]) ?_ ?_)
        · rw [hv4_84, hv2_14, hv3_24]; rfl
        · rw [hv4_84, hv2_14, hv3_24]; rfl
      · have b_50 := bI_0 (Decidable.of_not_not c_50)
        refine x_throw (cls := xISE) (text := "the trade can't be disputed") hC hX hR (by decide +kernel) (by decide +kernel) (by decide +kernel) xaX4_dispute_59 xb_59 (by decide) xg_59 dX4_dispute_53 dX4_dispute_56 dX4_dispute_57 dX4_dispute_59 dX4_dispute_62 (Nat.lt_of_lt_of_le (by decide : 5 < 6) (Nat.le_of_ble_eq_true rfl)) (Nat.le_of_ble_eq_true rfl) ⟨Nat.le_of_ble_eq_true rfl, Nat.le_of_ble_eq_true rfl⟩ ?_
        unfold cxDisp
        rw [sq0 x_2]
        refine XE_l ?_
        exact XE3 (by rw [if_neg (fun q => by have q1 := q.1; have q2 := q.2.1; have q3 := q.2.2; first | omega | (rw [← hv2_14, b_42] at q2; exact absurd q2 (by decide)) | (rw [← hv3_24, b_50] at q3; exact absurd q3 (by decide)))])
theorem iX4_settle_4 : ∀ w ∈ wsX40, w ∈ wsX4_settle := by decide +kernel
theorem fX4_settle_21 : Cond.fieldLink RX4 21 "Mutualledger" "trades" "LMutualledger$Trades;" ∈ wsX4_settle := by decide +kernel
theorem fX4_settle_28 : Cond.fieldLink RX4 28 "Mutualledger" "debts" "LMutualledger$Debts;" ∈ wsX4_settle := by decide +kernel
theorem xaX4_settle_59 : ∀ w ∈ (vx_atS RX4 59 xISE ["java/lang/RuntimeException", "java/lang/Exception"]).filter goodWord, w ∈ wsX4_settle := by decide +kernel
set_option maxHeartbeats 4000000 in
set_option maxRecDepth 100000 in
theorem c_X4_settle {g : mG} {S : Mem} {t : Int} (ht : -2147483648 ≤ t ∧ t < 2147483648) {z : Int} (hz : z = 0 ∨ z = 1) (hg : Rg S) (hok : OkD (S 8)) (hfz : Fz (S 8) (S 10)) (hrw : rw8 S) (l : Launch) : DoesX l yX4_settle wsX4_settle ({ frames := 7, cells := 2, slots := 12, locals := 111 } : Room) g [.ref (g.2.2 0), .int (z32 t), .int (z32 z)] S (XI (cxSett S t) (moSC S t z) (stSettC S t z)) (XE (cxSett S t) S) := by
  refine DoesX.of (cc := cX4_settle) (maxL := 7) (ret := (some .int)) (own := RX4) (by decide) rfl rfl (Nat.le_of_ble_eq_true rfl) ?_
  intro C hC hX hR
  show MW C g 7 (0, 0) 0 [(0, .ref (g.2.2 0)), (1, .int (z32 t)), (2, .int (z32 z))] [] S
  have hgg := hg
  obtain ⟨h1, h2, h3, h4, h5, h6⟩ := hgg
  refine m_aload_n hC dX4_settle_0 0 rfl ?_
  refine m_iload_n hC dX4_settle_1 1 rfl ?_
  refine x_callVv (n := 1) hC hX hR (c_X4_needTrade ht hg) gX4_settle_X4_needTrade rfl dX4_settle_2 rfl rfl (by decide +kernel) ⟨Nat.le_of_ble_eq_true rfl, Nat.le_of_ble_eq_true rfl⟩ rfl (Nat.le_of_ble_eq_true rfl) ⟨Nat.le_of_ble_eq_true rfl, Nat.le_of_ble_eq_true rfl⟩ rfl (fun E9 S9 q9 => by unfold cxSett; exact XE_l q9) (fun x_2 => ?_)
  have l1 := xnT_in x_2
  have l2 := hrw t l1.1 l1.2
  have e5 := h6 t 5
  refine m_aload_n hC dX4_settle_5 0 rfl ?_
  refine m_getR (o := 0) (j := 1) (a := 3) (CN := RX4) (T := TX4) (N := 9) hC iX4_settle_4 fX4_settle_21 rfl dX4_settle_6 rfl rfl (by decide) rfl ?_
  refine m_iload_n hC dX4_settle_9 1 rfl ?_
  refine m_iconst (v := 0) hC dX4_settle_10 (by decide) ?_
  refine m_callVi (n := 2) hC (c_X3_of ht (by omega)) gX4_settle_X3_of rfl dX4_settle_11 rfl rfl (by decide +kernel) ⟨Nat.le_of_ble_eq_true rfl, Nat.le_of_ble_eq_true rfl⟩ rfl (Nat.le_of_ble_eq_true rfl) ⟨Nat.le_of_ble_eq_true rfl, Nat.le_of_ble_eq_true rfl⟩ rfl ?_
  refine m_iconst (v := 1) hC dX4_settle_14 (by decide) ?_
  refine m_icmp_eq (tgt := 28) hC dX4_settle_15 (by decide) (by have := h6 t 0; omega) (by omega) (fun c_15 => ?_) (fun c_15 => ?_)
  · have y_15 : (if trd S t 0 = 1 then (0 : Int) else 3) = 0 := if_pos (by omega)
    refine m_aload_n hC dX4_settle_28 0 rfl ?_
    refine m_getR (o := 0) (j := 1) (a := 3) (CN := RX4) (T := TX4) (N := 9) hC iX4_settle_4 fX4_settle_21 rfl dX4_settle_29 rfl rfl (by decide) rfl ?_
    refine m_iload_n hC dX4_settle_32 1 rfl ?_
    refine m_iconst (v := 1) hC dX4_settle_33 (by decide) ?_
    refine m_callVi (n := 2) hC (c_X3_of ht (by omega)) gX4_settle_X3_of rfl dX4_settle_34 rfl rfl (by decide +kernel) ⟨Nat.le_of_ble_eq_true rfl, Nat.le_of_ble_eq_true rfl⟩ rfl (Nat.le_of_ble_eq_true rfl) ⟨Nat.le_of_ble_eq_true rfl, Nat.le_of_ble_eq_true rfl⟩ rfl ?_
    refine m_istore_n hC dX4_settle_37 (fun z9 => [(3, .int (z32 z9)), (0, .ref (g.2.2 0)), (1, .int (z32 t)), (2, .int (z32 z))]) (by decide) (fun _ => rfl) (fun v3_37 hv3_37 => ?_)
    refine m_aload_n hC dX4_settle_38 1 rfl ?_
    refine m_getR (o := 0) (j := 1) (a := 3) (CN := RX4) (T := TX4) (N := 9) hC iX4_settle_4 fX4_settle_21 rfl dX4_settle_39 rfl rfl (by decide) rfl ?_
    refine m_iload_n hC dX4_settle_42 2 rfl ?_
    refine m_iconst (v := 2) hC dX4_settle_43 (by decide) ?_
    refine m_callVi (n := 2) hC (c_X3_of ht (by omega)) gX4_settle_X3_of rfl dX4_settle_44 rfl rfl (by decide +kernel) ⟨Nat.le_of_ble_eq_true rfl, Nat.le_of_ble_eq_true rfl⟩ rfl (Nat.le_of_ble_eq_true rfl) ⟨Nat.le_of_ble_eq_true rfl, Nat.le_of_ble_eq_true rfl⟩ rfl ?_
    refine m_istore hC dX4_settle_47 (fun z9 => [(4, .int (z32 z9)), (3, .int (z32 v3_37)), (0, .ref (g.2.2 0)), (1, .int (z32 t)), (2, .int (z32 z))]) (by decide) (fun _ => rfl) (fun v4_47 hv4_47 => ?_)
    refine m_aload_n hC dX4_settle_49 2 rfl ?_
    refine m_getR (o := 0) (j := 1) (a := 3) (CN := RX4) (T := TX4) (N := 9) hC iX4_settle_4 fX4_settle_21 rfl dX4_settle_50 rfl rfl (by decide) rfl ?_
    refine m_iload_n hC dX4_settle_53 3 rfl ?_
    refine m_iconst (v := 5) hC dX4_settle_54 (by decide) ?_
    refine m_callVi (n := 2) hC (c_X3_of ht (by omega)) gX4_settle_X3_of rfl dX4_settle_55 rfl rfl (by decide +kernel) ⟨Nat.le_of_ble_eq_true rfl, Nat.le_of_ble_eq_true rfl⟩ rfl (Nat.le_of_ble_eq_true rfl) ⟨Nat.le_of_ble_eq_true rfl, Nat.le_of_ble_eq_true rfl⟩ rfl ?_
    refine m_istore hC dX4_settle_58 (fun z9 => [(5, .int (z32 z9)), (4, .int (z32 v4_47)), (3, .int (z32 v3_37)), (0, .ref (g.2.2 0)), (1, .int (z32 t)), (2, .int (z32 z))]) (by decide) (fun _ => rfl) (fun v5_58 hv5_58 => ?_)
    refine m_aload_n hC dX4_settle_60 3 rfl ?_
    refine m_getR (o := 0) (j := 2) (a := 6) (CN := RX4) (T := TX4) (N := 9) hC iX4_settle_4 fX4_settle_28 rfl dX4_settle_61 rfl rfl (by decide) rfl ?_
    refine m_iload_n hC dX4_settle_64 2 rfl ?_
    refine m_iload hC dX4_settle_65 1 rfl ?_
    refine m_iload hC dX4_settle_67 0 rfl ?_
    refine m_ineg hC dX4_settle_69 ?_
    refine m_callVv (n := 3) hC (c_freeze9 (by omega) (by omega)) gX4_settle_X0_freeze rfl dX4_settle_70 rfl rfl (by decide +kernel) ⟨Nat.le_of_ble_eq_true rfl, Nat.le_of_ble_eq_true rfl⟩ rfl (Nat.le_of_ble_eq_true rfl) ⟨Nat.le_of_ble_eq_true rfl, Nat.le_of_ble_eq_true rfl⟩ rfl ?_
    refine m_aload_n hC dX4_settle_73 3 rfl ?_
    refine m_getR (o := 0) (j := 1) (a := 3) (CN := RX4) (T := TX4) (N := 9) hC iX4_settle_4 fX4_settle_21 rfl dX4_settle_74 rfl rfl (by decide) rfl ?_
    refine m_iload_n hC dX4_settle_77 4 rfl ?_
    refine m_iload_n hC dX4_settle_78 5 rfl ?_
    refine m_if_eq (tgt := 86) hC dX4_settle_79 (by decide) (by omega) (fun c_79 => ?_) (fun c_79 => ?_)
    · refine m_iconst (v := 0) hC dX4_settle_86 (by decide) ?_
      refine m_iconst (v := 0) hC dX4_settle_87 (by decide) ?_
      refine m_callVv (n := 3) hC (c_X3_turn ht) gX4_settle_X3_turn rfl dX4_settle_88 rfl rfl (by decide +kernel) ⟨Nat.le_of_ble_eq_true rfl, Nat.le_of_ble_eq_true rfl⟩ rfl (Nat.le_of_ble_eq_true rfl) ⟨Nat.le_of_ble_eq_true rfl, Nat.le_of_ble_eq_true rfl⟩ rfl ?_
      refine m_iload_n hC dX4_settle_91 5 rfl ?_
      refine m_if_ne (tgt := 97) hC dX4_settle_92 (by decide) (by omega) (fun c_92 => ?_) (fun c_92 => ?_)
      · refine m_aload_n hC dX4_settle_97 3 rfl ?_
        refine m_getR (o := 0) (j := 1) (a := 3) (CN := RX4) (T := TX4) (N := 9) hC iX4_settle_4 fX4_settle_21 rfl dX4_settle_98 rfl rfl (by decide) rfl ?_
        refine m_iload_n hC dX4_settle_101 4 rfl ?_
        refine m_iconst (v := 3) hC dX4_settle_102 (by decide) ?_
        refine m_callVi (n := 2) hC (c_X3_of ht (by omega)) gX4_settle_X3_of rfl dX4_settle_103 rfl rfl (by decide +kernel) ⟨Nat.le_of_ble_eq_true rfl, Nat.le_of_ble_eq_true rfl⟩ rfl (Nat.le_of_ble_eq_true rfl) ⟨Nat.le_of_ble_eq_true rfl, Nat.le_of_ble_eq_true rfl⟩ rfl ?_
        refine m_iload hC dX4_settle_106 0 rfl ?_
        refine m_isub hC dX4_settle_108 ?_
        refine m_istore hC dX4_settle_109 (fun z9 => [(6, .int (z32 z9)), (5, .int (z32 v5_58)), (4, .int (z32 v4_47)), (3, .int (z32 v3_37)), (0, .ref (g.2.2 0)), (1, .int (z32 t)), (2, .int (z32 z))]) (by decide) (fun _ => rfl) (fun v6_109 hv6_109 => ?_)
        refine m_aload_n hC dX4_settle_111 4 rfl ?_
        refine m_getR (o := 0) (j := 2) (a := 6) (CN := RX4) (T := TX4) (N := 9) hC iX4_settle_4 fX4_settle_28 rfl dX4_settle_112 rfl rfl (by decide) rfl ?_
        refine m_iload_n hC dX4_settle_115 3 rfl ?_
        refine m_iload hC dX4_settle_116 2 rfl ?_
        refine m_iload hC dX4_settle_118 1 rfl ?_
        refine m_ineg hC dX4_settle_120 ?_
        refine m_callVv (n := 3) hC (c_more9 (by omega) (by omega)) gX4_settle_X0_more rfl dX4_settle_121 rfl rfl (by decide +kernel) ⟨Nat.le_of_ble_eq_true rfl, Nat.le_of_ble_eq_true rfl⟩ rfl (Nat.le_of_ble_eq_true rfl) ⟨Nat.le_of_ble_eq_true rfl, Nat.le_of_ble_eq_true rfl⟩ rfl ?_
        refine m_aload_n hC dX4_settle_124 4 rfl ?_
        refine m_getR (o := 0) (j := 2) (a := 6) (CN := RX4) (T := TX4) (N := 9) hC iX4_settle_4 fX4_settle_28 rfl dX4_settle_125 rfl rfl (by decide) rfl ?_
        refine m_iload hC dX4_settle_128 2 rfl ?_
        refine m_iload_n hC dX4_settle_130 3 rfl ?_
        refine m_iload hC dX4_settle_131 0 rfl ?_
        refine m_callVv (n := 3) hC (c_more9 (by omega) (by omega)) gX4_settle_X0_more rfl dX4_settle_133 rfl rfl (by decide +kernel) ⟨Nat.le_of_ble_eq_true rfl, Nat.le_of_ble_eq_true rfl⟩ rfl (Nat.le_of_ble_eq_true rfl) ⟨Nat.le_of_ble_eq_true rfl, Nat.le_of_ble_eq_true rfl⟩ rfl ?_
        refine m_iload hC dX4_settle_136 0 rfl ?_
        refine x_iret hC hR (Or.inl rfl) dX4_settle_138 ⟨Nat.le_of_ble_eq_true rfl, Nat.le_of_ble_eq_true rfl⟩ (XI_mk (by unfold cxSett; rw [sq0 x_2, sq0 y_15]) ?_ ?_)
        · first | (exfalso; omega; done) | (unfold moSC; rw [if_neg (by omega), hv6_109, hv3_37, hv4_47, hv5_58]; rfl)
        · first | (exfalso; omega; done) | (unfold stSettC; rw [if_neg (by omega), hv6_109, hv3_37, hv4_47, hv5_58]; rfl)
      · refine m_iconst (v := 0) hC dX4_settle_95 (by decide) ?_
        refine x_iret hC hR (Or.inl rfl) dX4_settle_96 ⟨Nat.le_of_ble_eq_true rfl, Nat.le_of_ble_eq_true rfl⟩ (XI_mk (by unfold cxSett; rw [sq0 x_2, sq0 y_15]) ?_ ?_)
        · first | (exfalso; omega; done) | (unfold moSC; rw [if_pos (by omega)])
        · first | (exfalso; omega; done) | (unfold stSettC; rw [if_pos (by omega), hv3_37, hv4_47, hv5_58]; rfl)
    · refine m_iconst (v := 2) hC dX4_settle_82 (by decide) ?_
      refine m_goto (tgt := 87) hC dX4_settle_83 (by decide) ?_
      refine m_iconst (v := 0) hC dX4_settle_87 (by decide) ?_
      refine m_callVv (n := 3) hC (c_X3_turn ht) gX4_settle_X3_turn rfl dX4_settle_88 rfl rfl (by decide +kernel) ⟨Nat.le_of_ble_eq_true rfl, Nat.le_of_ble_eq_true rfl⟩ rfl (Nat.le_of_ble_eq_true rfl) ⟨Nat.le_of_ble_eq_true rfl, Nat.le_of_ble_eq_true rfl⟩ rfl ?_
      refine m_iload_n hC dX4_settle_91 5 rfl ?_
      refine m_if_ne (tgt := 97) hC dX4_settle_92 (by decide) (by omega) (fun c_92 => ?_) (fun c_92 => ?_)
      · refine m_aload_n hC dX4_settle_97 3 rfl ?_
        refine m_getR (o := 0) (j := 1) (a := 3) (CN := RX4) (T := TX4) (N := 9) hC iX4_settle_4 fX4_settle_21 rfl dX4_settle_98 rfl rfl (by decide) rfl ?_
        refine m_iload_n hC dX4_settle_101 4 rfl ?_
        refine m_iconst (v := 3) hC dX4_settle_102 (by decide) ?_
        refine m_callVi (n := 2) hC (c_X3_of ht (by omega)) gX4_settle_X3_of rfl dX4_settle_103 rfl rfl (by decide +kernel) ⟨Nat.le_of_ble_eq_true rfl, Nat.le_of_ble_eq_true rfl⟩ rfl (Nat.le_of_ble_eq_true rfl) ⟨Nat.le_of_ble_eq_true rfl, Nat.le_of_ble_eq_true rfl⟩ rfl ?_
        refine m_iload hC dX4_settle_106 0 rfl ?_
        refine m_isub hC dX4_settle_108 ?_
        refine m_istore hC dX4_settle_109 (fun z9 => [(6, .int (z32 z9)), (5, .int (z32 v5_58)), (4, .int (z32 v4_47)), (3, .int (z32 v3_37)), (0, .ref (g.2.2 0)), (1, .int (z32 t)), (2, .int (z32 z))]) (by decide) (fun _ => rfl) (fun v6_109 hv6_109 => ?_)
        refine m_aload_n hC dX4_settle_111 4 rfl ?_
        refine m_getR (o := 0) (j := 2) (a := 6) (CN := RX4) (T := TX4) (N := 9) hC iX4_settle_4 fX4_settle_28 rfl dX4_settle_112 rfl rfl (by decide) rfl ?_
        refine m_iload_n hC dX4_settle_115 3 rfl ?_
        refine m_iload hC dX4_settle_116 2 rfl ?_
        refine m_iload hC dX4_settle_118 1 rfl ?_
        refine m_ineg hC dX4_settle_120 ?_
        refine m_callVv (n := 3) hC (c_more9 (by omega) (by omega)) gX4_settle_X0_more rfl dX4_settle_121 rfl rfl (by decide +kernel) ⟨Nat.le_of_ble_eq_true rfl, Nat.le_of_ble_eq_true rfl⟩ rfl (Nat.le_of_ble_eq_true rfl) ⟨Nat.le_of_ble_eq_true rfl, Nat.le_of_ble_eq_true rfl⟩ rfl ?_
        refine m_aload_n hC dX4_settle_124 4 rfl ?_
        refine m_getR (o := 0) (j := 2) (a := 6) (CN := RX4) (T := TX4) (N := 9) hC iX4_settle_4 fX4_settle_28 rfl dX4_settle_125 rfl rfl (by decide) rfl ?_
        refine m_iload hC dX4_settle_128 2 rfl ?_
        refine m_iload_n hC dX4_settle_130 3 rfl ?_
        refine m_iload hC dX4_settle_131 0 rfl ?_
        refine m_callVv (n := 3) hC (c_more9 (by omega) (by omega)) gX4_settle_X0_more rfl dX4_settle_133 rfl rfl (by decide +kernel) ⟨Nat.le_of_ble_eq_true rfl, Nat.le_of_ble_eq_true rfl⟩ rfl (Nat.le_of_ble_eq_true rfl) ⟨Nat.le_of_ble_eq_true rfl, Nat.le_of_ble_eq_true rfl⟩ rfl ?_
        refine m_iload hC dX4_settle_136 0 rfl ?_
        refine x_iret hC hR (Or.inl rfl) dX4_settle_138 ⟨Nat.le_of_ble_eq_true rfl, Nat.le_of_ble_eq_true rfl⟩ (XI_mk (by unfold cxSett; rw [sq0 x_2, sq0 y_15]) ?_ ?_)
        · first | (exfalso; omega; done) | (unfold moSC; rw [if_neg (by omega), hv6_109, hv3_37, hv4_47, hv5_58]; rfl)
        · first | (exfalso; omega; done) | (unfold stSettC; rw [if_neg (by omega), hv6_109, hv3_37, hv4_47, hv5_58]; rfl)
      · refine m_iconst (v := 0) hC dX4_settle_95 (by decide) ?_
        refine x_iret hC hR (Or.inl rfl) dX4_settle_96 ⟨Nat.le_of_ble_eq_true rfl, Nat.le_of_ble_eq_true rfl⟩ (XI_mk (by unfold cxSett; rw [sq0 x_2, sq0 y_15]) ?_ ?_)
        · first | (exfalso; omega; done) | (unfold moSC; rw [if_pos (by omega)])
        · first | (exfalso; omega; done) | (unfold stSettC; rw [if_pos (by omega), hv3_37, hv4_47, hv5_58]; rfl)
  · refine x_throw (cls := xISE) (text := "the trade is not disputed") hC hX hR (by decide +kernel) (by decide +kernel) (by decide +kernel) xaX4_settle_59 xb_59 (by decide) xg_59 dX4_settle_18 dX4_settle_21 dX4_settle_22 dX4_settle_24 dX4_settle_27 (Nat.lt_of_lt_of_le (by decide : 5 < 6) (Nat.le_of_ble_eq_true rfl)) (Nat.le_of_ble_eq_true rfl) ⟨Nat.le_of_ble_eq_true rfl, Nat.le_of_ble_eq_true rfl⟩ ?_
    unfold cxSett
    rw [sq0 x_2]
    refine XE_l ?_
    exact XE3 (by rw [if_neg (by omega)])
theorem iX4_guarantee_4 : ∀ w ∈ wsX40, w ∈ wsX4_guarantee := by decide +kernel
theorem fX4_guarantee_32 : Cond.fieldLink RX4 32 "Mutualledger" "guarantees" "LMutualledger$Table;" ∈ wsX4_guarantee := by decide +kernel
theorem xaX4_guarantee_59 : ∀ w ∈ (vx_atS RX4 59 xISE ["java/lang/RuntimeException", "java/lang/Exception"]).filter goodWord, w ∈ wsX4_guarantee := by decide +kernel
set_option maxHeartbeats 4000000 in
set_option maxRecDepth 100000 in
theorem c_X4_guarantee {g : mG} {S : Mem} {f : Int} (hf : -2147483648 ≤ f ∧ f < 2147483648) {s : Int} (hs : -2147483648 ≤ s ∧ s < 2147483648) {a : Int} (ha : -2147483648 ≤ a ∧ a < 2147483648) (hg : Rg S) (hok : OkD (S 8)) (hfz : Fz (S 8) (S 10)) (hgu : OkD (S 12)) (hlr : ∀ s, 0 ≤ s → s < 9 → -1000000 ≤ lim S s ∧ lim S s ≤ 1000000) (l : Launch) : DoesX l yX4_guarantee wsX4_guarantee ({ frames := 8, cells := 5, slots := 30, locals := 159 } : Room) g [.ref (g.2.2 0), .int (z32 f), .int (z32 s), .int (z32 a)] S (XI (cxGuar S f s a) (S 12 (ix f s) + a) (mput S 12 (adF (S 12) f s a))) (XE (cxGuar S f s a) S) := by
  refine DoesX.of (cc := cX4_guarantee) (maxL := 4) (ret := (some .int)) (own := RX4) (by decide) rfl rfl (Nat.le_of_ble_eq_true rfl) ?_
  intro C hC hX hR
  show MW C g 4 (0, 0) 0 [(0, .ref (g.2.2 0)), (1, .int (z32 f)), (2, .int (z32 s)), (3, .int (z32 a))] [] S
  have hgg := hg
  obtain ⟨h1, h2, h3, h4, h5, h6⟩ := hgg
  refine m_aload_n hC dX4_guarantee_0 0 rfl ?_
  refine m_iload_n hC dX4_guarantee_1 1 rfl ?_
  refine m_iload_n hC dX4_guarantee_2 2 rfl ?_
  refine m_iload_n hC dX4_guarantee_3 3 rfl ?_
  refine x_callVv (n := 3) hC hX hR (c_X4_needGuaranteeArguments hf hs ha hg) gX4_guarantee_X4_needGuaranteeArguments rfl dX4_guarantee_4 rfl rfl (by decide +kernel) ⟨Nat.le_of_ble_eq_true rfl, Nat.le_of_ble_eq_true rfl⟩ rfl (Nat.le_of_ble_eq_true rfl) ⟨Nat.le_of_ble_eq_true rfl, Nat.le_of_ble_eq_true rfl⟩ rfl (fun E9 S9 q9 => by unfold cxGuar; exact XE_l q9) (fun x_4 => ?_)
  have q4 := sq_in x_4
  have q5 := sq_in q4.2
  have q6 := sq_in q5.2
  have l1 := liv_in (xnS_in q4.1) hg
  have l2 := liv_in (xnS_in q5.1) hg
  have l3 := xnR_in q6.1
  have e12 := hgu.1.ent (i := f) (j := s) (by omega) (by omega)
  refine m_aload_n hC dX4_guarantee_7 0 rfl ?_
  refine m_getR (o := 0) (j := 3) (a := 11) (CN := RX4) (T := TX4) (N := 9) hC iX4_guarantee_4 fX4_guarantee_32 rfl dX4_guarantee_8 rfl rfl (by decide) rfl ?_
  refine m_iload_n hC dX4_guarantee_11 1 rfl ?_
  refine m_iload_n hC dX4_guarantee_12 2 rfl ?_
  refine m_callVi (n := 2) hC (c_get12 (by omega) (by omega)) gX4_guarantee_X2_get rfl dX4_guarantee_13 rfl rfl (by decide +kernel) ⟨Nat.le_of_ble_eq_true rfl, Nat.le_of_ble_eq_true rfl⟩ rfl (Nat.le_of_ble_eq_true rfl) ⟨Nat.le_of_ble_eq_true rfl, Nat.le_of_ble_eq_true rfl⟩ rfl ?_
  refine m_iload_n hC dX4_guarantee_16 3 rfl ?_
  refine m_iadd hC dX4_guarantee_17 ?_
  refine m_sipush (v := 1000) hC dX4_guarantee_18 (by decide) ?_
  refine m_icmp_le (tgt := 34) hC dX4_guarantee_21 (by decide) (by omega) (by omega) (fun c_21 => ?_) (fun c_21 => ?_)
  · have y_21 : (if S 12 (ix f s) + a ≤ 1000 then (0 : Int) else 3) = 0 := if_pos (by omega)
    refine m_aload_n hC dX4_guarantee_34 0 rfl ?_
    refine m_iload_n hC dX4_guarantee_35 1 rfl ?_
    refine m_iload_n hC dX4_guarantee_36 3 rfl ?_
    refine x_callVv (n := 2) hC hX hR (c_X4_needBearable (by omega) (by omega) hg hok.1 (hlr f (by omega) (by omega))) gX4_guarantee_X4_needBearable rfl dX4_guarantee_37 rfl rfl (by decide +kernel) ⟨Nat.le_of_ble_eq_true rfl, Nat.le_of_ble_eq_true rfl⟩ rfl (Nat.le_of_ble_eq_true rfl) ⟨Nat.le_of_ble_eq_true rfl, Nat.le_of_ble_eq_true rfl⟩ rfl (fun E9 S9 q9 => by unfold cxGuar; rw [sq0 x_4, sq0 y_21]; exact XE_l q9) (fun x_37 => ?_)
    refine m_aload_n hC dX4_guarantee_40 0 rfl ?_
    refine m_getR (o := 0) (j := 3) (a := 11) (CN := RX4) (T := TX4) (N := 9) hC iX4_guarantee_4 fX4_guarantee_32 rfl dX4_guarantee_41 rfl rfl (by decide) rfl ?_
    refine m_iload_n hC dX4_guarantee_44 1 rfl ?_
    refine m_iload_n hC dX4_guarantee_45 2 rfl ?_
    refine m_iload_n hC dX4_guarantee_46 3 rfl ?_
    refine m_callVv (n := 3) hC (c_add12 (by omega) (by omega)) gX4_guarantee_X2_add rfl dX4_guarantee_47 rfl rfl (by decide +kernel) ⟨Nat.le_of_ble_eq_true rfl, Nat.le_of_ble_eq_true rfl⟩ rfl (Nat.le_of_ble_eq_true rfl) ⟨Nat.le_of_ble_eq_true rfl, Nat.le_of_ble_eq_true rfl⟩ rfl ?_
    refine m_aload_n hC dX4_guarantee_50 0 rfl ?_
    refine m_getR (o := 0) (j := 3) (a := 11) (CN := RX4) (T := TX4) (N := 9) hC iX4_guarantee_4 fX4_guarantee_32 rfl dX4_guarantee_51 rfl rfl (by decide) rfl ?_
    refine m_iload_n hC dX4_guarantee_54 1 rfl ?_
    refine m_iload_n hC dX4_guarantee_55 2 rfl ?_
    refine m_callVi (n := 2) hC (c_get12 (by omega) (by omega)) gX4_guarantee_X2_get rfl dX4_guarantee_56 rfl rfl (by decide +kernel) ⟨Nat.le_of_ble_eq_true rfl, Nat.le_of_ble_eq_true rfl⟩ rfl (Nat.le_of_ble_eq_true rfl) ⟨Nat.le_of_ble_eq_true rfl, Nat.le_of_ble_eq_true rfl⟩ rfl ?_
    refine x_iret hC hR (Or.inl rfl) dX4_guarantee_59 ⟨Nat.le_of_ble_eq_true rfl, Nat.le_of_ble_eq_true rfl⟩ (XI_mk (by unfold cxGuar; rw [sq0 x_4, sq0 y_21, sq0 x_37]) ?_ ?_)
    · rw [mput_same]; unfold adF; rw [up_same]
    · rfl
  · refine x_throw (cls := xISE) (text := "the guarantee would be above 1000") hC hX hR (by decide +kernel) (by decide +kernel) (by decide +kernel) xaX4_guarantee_59 xb_59 (by decide) xg_59 dX4_guarantee_24 dX4_guarantee_27 dX4_guarantee_28 dX4_guarantee_30 dX4_guarantee_33 (Nat.lt_of_lt_of_le (by decide : 5 < 6) (Nat.le_of_ble_eq_true rfl)) (Nat.le_of_ble_eq_true rfl) ⟨Nat.le_of_ble_eq_true rfl, Nat.le_of_ble_eq_true rfl⟩ ?_
    unfold cxGuar
    rw [sq0 x_4]
    refine XE_l ?_
    exact XE3 (by rw [if_neg (by omega)])
theorem iX4_revoke_4 : ∀ w ∈ wsX40, w ∈ wsX4_revoke := by decide +kernel
theorem fX4_revoke_32 : Cond.fieldLink RX4 32 "Mutualledger" "guarantees" "LMutualledger$Table;" ∈ wsX4_revoke := by decide +kernel
theorem xaX4_revoke_59 : ∀ w ∈ (vx_atS RX4 59 xISE ["java/lang/RuntimeException", "java/lang/Exception"]).filter goodWord, w ∈ wsX4_revoke := by decide +kernel
set_option maxHeartbeats 4000000 in
set_option maxRecDepth 100000 in
theorem c_X4_revoke {g : mG} {S : Mem} {f : Int} (hf : -2147483648 ≤ f ∧ f < 2147483648) {s : Int} (hs : -2147483648 ≤ s ∧ s < 2147483648) {a : Int} (ha : -2147483648 ≤ a ∧ a < 2147483648) (hg : Rg S) (hok : OkD (S 8)) (hfz : Fz (S 8) (S 10)) (hgu : OkD (S 12)) (hlr : ∀ s, 0 ≤ s → s < 9 → -1000000 ≤ lim S s ∧ lim S s ≤ 1000000) (l : Launch) : DoesX l yX4_revoke wsX4_revoke ({ frames := 8, cells := 5, slots := 30, locals := 159 } : Room) g [.ref (g.2.2 0), .int (z32 f), .int (z32 s), .int (z32 a)] S (XI (cxRevo S f s a) (S 12 (ix f s) + (-a)) (mput S 12 (adF (S 12) f s (-a)))) (XE (cxRevo S f s a) S) := by
  refine DoesX.of (cc := cX4_revoke) (maxL := 4) (ret := (some .int)) (own := RX4) (by decide) rfl rfl (Nat.le_of_ble_eq_true rfl) ?_
  intro C hC hX hR
  show MW C g 4 (0, 0) 0 [(0, .ref (g.2.2 0)), (1, .int (z32 f)), (2, .int (z32 s)), (3, .int (z32 a))] [] S
  have hgg := hg
  obtain ⟨h1, h2, h3, h4, h5, h6⟩ := hgg
  refine m_aload_n hC dX4_revoke_0 0 rfl ?_
  refine m_iload_n hC dX4_revoke_1 1 rfl ?_
  refine m_iload_n hC dX4_revoke_2 2 rfl ?_
  refine m_iload_n hC dX4_revoke_3 3 rfl ?_
  refine x_callVv (n := 3) hC hX hR (c_X4_needGuaranteeArguments hf hs ha hg) gX4_revoke_X4_needGuaranteeArguments rfl dX4_revoke_4 rfl rfl (by decide +kernel) ⟨Nat.le_of_ble_eq_true rfl, Nat.le_of_ble_eq_true rfl⟩ rfl (Nat.le_of_ble_eq_true rfl) ⟨Nat.le_of_ble_eq_true rfl, Nat.le_of_ble_eq_true rfl⟩ rfl (fun E9 S9 q9 => by unfold cxRevo; exact XE_l q9) (fun x_4 => ?_)
  have q4 := sq_in x_4
  have q5 := sq_in q4.2
  have q6 := sq_in q5.2
  have l1 := liv_in (xnS_in q4.1) hg
  have l2 := liv_in (xnS_in q5.1) hg
  have l3 := xnR_in q6.1
  have e12 := hgu.1.ent (i := f) (j := s) (by omega) (by omega)
  refine m_aload_n hC dX4_revoke_7 0 rfl ?_
  refine m_getR (o := 0) (j := 3) (a := 11) (CN := RX4) (T := TX4) (N := 9) hC iX4_revoke_4 fX4_revoke_32 rfl dX4_revoke_8 rfl rfl (by decide) rfl ?_
  refine m_iload_n hC dX4_revoke_11 1 rfl ?_
  refine m_iload_n hC dX4_revoke_12 2 rfl ?_
  refine m_callVi (n := 2) hC (c_get12 (by omega) (by omega)) gX4_revoke_X2_get rfl dX4_revoke_13 rfl rfl (by decide +kernel) ⟨Nat.le_of_ble_eq_true rfl, Nat.le_of_ble_eq_true rfl⟩ rfl (Nat.le_of_ble_eq_true rfl) ⟨Nat.le_of_ble_eq_true rfl, Nat.le_of_ble_eq_true rfl⟩ rfl ?_
  refine m_iload_n hC dX4_revoke_16 3 rfl ?_
  refine m_icmp_ge (tgt := 30) hC dX4_revoke_17 (by decide) (by omega) (by omega) (fun c_17 => ?_) (fun c_17 => ?_)
  · have y_17 : (if a ≤ S 12 (ix f s) then (0 : Int) else 3) = 0 := if_pos (by omega)
    refine m_aload_n hC dX4_revoke_30 0 rfl ?_
    refine m_iload_n hC dX4_revoke_31 2 rfl ?_
    refine m_iload_n hC dX4_revoke_32 3 rfl ?_
    refine x_callVv (n := 2) hC hX hR (c_X4_needBearable (by omega) (by omega) hg hok.1 (hlr s (by omega) (by omega))) gX4_revoke_X4_needBearable rfl dX4_revoke_33 rfl rfl (by decide +kernel) ⟨Nat.le_of_ble_eq_true rfl, Nat.le_of_ble_eq_true rfl⟩ rfl (Nat.le_of_ble_eq_true rfl) ⟨Nat.le_of_ble_eq_true rfl, Nat.le_of_ble_eq_true rfl⟩ rfl (fun E9 S9 q9 => by unfold cxRevo; rw [sq0 x_4, sq0 y_17]; exact XE_l q9) (fun x_33 => ?_)
    refine m_aload_n hC dX4_revoke_36 0 rfl ?_
    refine m_getR (o := 0) (j := 3) (a := 11) (CN := RX4) (T := TX4) (N := 9) hC iX4_revoke_4 fX4_revoke_32 rfl dX4_revoke_37 rfl rfl (by decide) rfl ?_
    refine m_iload_n hC dX4_revoke_40 1 rfl ?_
    refine m_iload_n hC dX4_revoke_41 2 rfl ?_
    refine m_iload_n hC dX4_revoke_42 3 rfl ?_
    refine m_ineg hC dX4_revoke_43 ?_
    refine m_callVv (n := 3) hC (c_add12 (by omega) (by omega)) gX4_revoke_X2_add rfl dX4_revoke_44 rfl rfl (by decide +kernel) ⟨Nat.le_of_ble_eq_true rfl, Nat.le_of_ble_eq_true rfl⟩ rfl (Nat.le_of_ble_eq_true rfl) ⟨Nat.le_of_ble_eq_true rfl, Nat.le_of_ble_eq_true rfl⟩ rfl ?_
    refine m_aload_n hC dX4_revoke_47 0 rfl ?_
    refine m_getR (o := 0) (j := 3) (a := 11) (CN := RX4) (T := TX4) (N := 9) hC iX4_revoke_4 fX4_revoke_32 rfl dX4_revoke_48 rfl rfl (by decide) rfl ?_
    refine m_iload_n hC dX4_revoke_51 1 rfl ?_
    refine m_iload_n hC dX4_revoke_52 2 rfl ?_
    refine m_callVi (n := 2) hC (c_get12 (by omega) (by omega)) gX4_revoke_X2_get rfl dX4_revoke_53 rfl rfl (by decide +kernel) ⟨Nat.le_of_ble_eq_true rfl, Nat.le_of_ble_eq_true rfl⟩ rfl (Nat.le_of_ble_eq_true rfl) ⟨Nat.le_of_ble_eq_true rfl, Nat.le_of_ble_eq_true rfl⟩ rfl ?_
    refine x_iret hC hR (Or.inl rfl) dX4_revoke_56 ⟨Nat.le_of_ble_eq_true rfl, Nat.le_of_ble_eq_true rfl⟩ (XI_mk (by unfold cxRevo; rw [sq0 x_4, sq0 y_17, sq0 x_33]) ?_ ?_)
    · rw [mput_same]; unfold adF; rw [up_same]
    · rfl
  · refine x_throw (cls := xISE) (text := "less than that is guaranteed") hC hX hR (by decide +kernel) (by decide +kernel) (by decide +kernel) xaX4_revoke_59 xb_59 (by decide) xg_59 dX4_revoke_20 dX4_revoke_23 dX4_revoke_24 dX4_revoke_26 dX4_revoke_29 (Nat.lt_of_lt_of_le (by decide : 5 < 6) (Nat.le_of_ble_eq_true rfl)) (Nat.le_of_ble_eq_true rfl) ⟨Nat.le_of_ble_eq_true rfl, Nat.le_of_ble_eq_true rfl⟩ ?_
    unfold cxRevo
    rw [sq0 x_4]
    refine XE_l ?_
    exact XE3 (by rw [if_neg (by omega)])
theorem iX4_fee_4 : ∀ w ∈ wsX40, w ∈ wsX4_fee := by decide +kernel
theorem fX4_fee_52 : Cond.fieldLink RX4 52 "Mutualledger" "thousandths" "I" ∈ wsX4_fee := by decide +kernel
set_option maxHeartbeats 4000000 in
set_option maxRecDepth 100000 in
theorem c_X4_fee {g : mG} {S : Mem} {x : Int} (hx : -2147483648 ≤ x ∧ x < 2147483648) (hg : Rg S) (l : Launch) : DoesX l yX4_fee wsX4_fee ({ frames := 7, cells := 1, slots := 6, locals := 112 } : Room) g [.ref (g.2.2 0), .int (z32 x)] S (XI (cxFee S x) (S 0 8) (mset S 0 8 x)) (XE (cxFee S x) S) := by
  refine DoesX.of (cc := cX4_fee) (maxL := 3) (ret := (some .int)) (own := RX4) (by decide) rfl rfl (Nat.le_of_ble_eq_true rfl) ?_
  intro C hC hX hR
  show MW C g 3 (0, 0) 0 [(0, .ref (g.2.2 0)), (1, .int (z32 x))] [] S
  refine m_iload_n hC dX4_fee_0 1 rfl ?_
  refine m_iconst (v := 0) hC dX4_fee_1 (by decide) ?_
  refine m_sipush (v := 500) hC dX4_fee_2 (by decide) ?_
  refine x_callSv (n := 3) hC hX hR (c_X4_needRange hx (by omega) (by omega)) gX4_fee_X4_needRange rfl dX4_fee_5 (by decide +kernel) ⟨Nat.le_of_ble_eq_true rfl, Nat.le_of_ble_eq_true rfl⟩ rfl (Nat.le_of_ble_eq_true rfl) ⟨Nat.le_of_ble_eq_true rfl, Nat.le_of_ble_eq_true rfl⟩ rfl (fun E9 S9 q9 => by unfold cxFee; exact XE_l q9) (fun x_5 => ?_)
  refine m_aload_n hC dX4_fee_8 0 rfl ?_
  refine m_getI (o := 0) (j := 8) (ji := 8) (CN := RX4) (T := TX4) (N := 9) hC iX4_fee_4 fX4_fee_52 rfl dX4_fee_9 rfl rfl (by decide) rfl rfl ?_
  refine m_istore_n hC dX4_fee_12 (fun z9 => [(2, .int (z32 z9)), (0, .ref (g.2.2 0)), (1, .int (z32 x))]) (by decide) (fun _ => rfl) (fun v2_12 hv2_12 => ?_)
  refine m_aload_n hC dX4_fee_13 1 rfl ?_
  refine m_iload_n hC dX4_fee_14 2 rfl ?_
  refine m_putI (o := 0) (j := 8) (ji := 8) (CN := RX4) (T := TX4) (N := 9) hC iX4_fee_4 fX4_fee_52 rfl dX4_fee_15 rfl rfl (by decide) rfl tyX4 tyX4_ok nmX4 rfl (by decide +kernel) rfl ?_
  refine m_iload_n hC dX4_fee_18 0 rfl ?_
  refine x_iret hC hR (Or.inl rfl) dX4_fee_19 ⟨Nat.le_of_ble_eq_true rfl, Nat.le_of_ble_eq_true rfl⟩ (XI_mk (by unfold cxFee; rw [sq0 x_5]) ?_ ?_)
  · omega
  · rfl
theorem iX4_balance_4 : ∀ w ∈ wsX40, w ∈ wsX4_balance := by decide +kernel
theorem fX4_balance_28 : Cond.fieldLink RX4 28 "Mutualledger" "debts" "LMutualledger$Debts;" ∈ wsX4_balance := by decide +kernel
set_option maxHeartbeats 4000000 in
set_option maxRecDepth 100000 in
theorem c_X4_balance {g : mG} {S : Mem} {x : Int} (hx : -2147483648 ≤ x ∧ x < 2147483648) (hg : Rg S) (l : Launch) : DoesX l yX4_balance wsX4_balance ({ frames := 8, cells := 1, slots := 6, locals := 132 } : Room) g [.ref (g.2.2 0), .int (z32 x)] S (XI (cxBal S x) (bl (S 8) x) (S)) (XE (cxBal S x) S) := by
  refine DoesX.of (cc := cX4_balance) (maxL := 2) (ret := (some .int)) (own := RX4) (by decide) rfl rfl (Nat.le_of_ble_eq_true rfl) ?_
  intro C hC hX hR
  show MW C g 2 (0, 0) 0 [(0, .ref (g.2.2 0)), (1, .int (z32 x))] [] S
  refine m_aload_n hC dX4_balance_0 0 rfl ?_
  refine m_iload_n hC dX4_balance_1 1 rfl ?_
  refine x_callVv (n := 1) hC hX hR (c_X4_needShopEverOrHouse hx hg) gX4_balance_X4_needShopEverOrHouse rfl dX4_balance_2 rfl rfl (by decide +kernel) ⟨Nat.le_of_ble_eq_true rfl, Nat.le_of_ble_eq_true rfl⟩ rfl (Nat.le_of_ble_eq_true rfl) ⟨Nat.le_of_ble_eq_true rfl, Nat.le_of_ble_eq_true rfl⟩ rfl (fun E9 S9 q9 => by unfold cxBal; exact XE_l q9) (fun x_2 => ?_)
  have l1 := xnH_in x_2 hg
  refine m_aload_n hC dX4_balance_5 0 rfl ?_
  refine m_getR (o := 0) (j := 2) (a := 6) (CN := RX4) (T := TX4) (N := 9) hC iX4_balance_4 fX4_balance_28 rfl dX4_balance_6 rfl rfl (by decide) rfl ?_
  refine m_iload_n hC dX4_balance_9 1 rfl ?_
  refine m_callVi (n := 1) hC (c_bal9 (by omega)) gX4_balance_X0_balanceOf rfl dX4_balance_10 rfl rfl (by decide +kernel) ⟨Nat.le_of_ble_eq_true rfl, Nat.le_of_ble_eq_true rfl⟩ rfl (Nat.le_of_ble_eq_true rfl) ⟨Nat.le_of_ble_eq_true rfl, Nat.le_of_ble_eq_true rfl⟩ rfl ?_
  refine x_iret hC hR (Or.inl rfl) dX4_balance_13 ⟨Nat.le_of_ble_eq_true rfl, Nat.le_of_ble_eq_true rfl⟩ (XI_mk (by unfold cxBal; rw [sq0 x_2]) ?_ ?_)
  · first | rfl | omega
  · rfl
theorem iX4_balanceAnew_4 : ∀ w ∈ wsX40, w ∈ wsX4_balanceAnew := by decide +kernel
theorem fX4_balanceAnew_21 : Cond.fieldLink RX4 21 "Mutualledger" "trades" "LMutualledger$Trades;" ∈ wsX4_balanceAnew := by decide +kernel
theorem fX4_balanceAnew_35 : Cond.fieldLink RX4 35 "Mutualledger" "givenUp" "LMutualledger$Table;" ∈ wsX4_balanceAnew := by decide +kernel
set_option maxHeartbeats 4000000 in
set_option maxRecDepth 100000 in
theorem c_X4_balanceAnew {g : mG} {S : Mem} {x : Int} (hx : -2147483648 ≤ x ∧ x < 2147483648) (hg : Rg S) (l : Launch) : DoesX l yX4_balanceAnew wsX4_balanceAnew ({ frames := 8, cells := 1, slots := 6, locals := 132 } : Room) g [.ref (g.2.2 0), .int (z32 x)] S (XI (cxBal S x) (sI (balF S x) (S 3 1).toNat + col (S 14) x - row (S 14) x) (S)) (XE (cxBal S x) S) := by
  refine DoesX.of (cc := cX4_balanceAnew) (maxL := 2) (ret := (some .int)) (own := RX4) (by decide) rfl rfl (Nat.le_of_ble_eq_true rfl) ?_
  intro C hC hX hR
  show MW C g 2 (0, 0) 0 [(0, .ref (g.2.2 0)), (1, .int (z32 x))] [] S
  have hgg := hg
  obtain ⟨h1, h2, h3, h4, h5, h6⟩ := hgg
  refine m_aload_n hC dX4_balanceAnew_0 0 rfl ?_
  refine m_iload_n hC dX4_balanceAnew_1 1 rfl ?_
  refine x_callVv (n := 1) hC hX hR (c_X4_needShopEverOrHouse hx hg) gX4_balanceAnew_X4_needShopEverOrHouse rfl dX4_balanceAnew_2 rfl rfl (by decide +kernel) ⟨Nat.le_of_ble_eq_true rfl, Nat.le_of_ble_eq_true rfl⟩ rfl (Nat.le_of_ble_eq_true rfl) ⟨Nat.le_of_ble_eq_true rfl, Nat.le_of_ble_eq_true rfl⟩ rfl (fun E9 S9 q9 => by unfold cxBal; exact XE_l q9) (fun x_2 => ?_)
  have l1 := xnH_in x_2 hg
  refine m_aload_n hC dX4_balanceAnew_5 0 rfl ?_
  refine m_getR (o := 0) (j := 1) (a := 3) (CN := RX4) (T := TX4) (N := 9) hC iX4_balanceAnew_4 fX4_balanceAnew_21 rfl dX4_balanceAnew_6 rfl rfl (by decide) rfl ?_
  refine m_iload_n hC dX4_balanceAnew_9 1 rfl ?_
  refine m_callVi (n := 1) hC (c_X3_balanceOf hx (Rg.trd hg) h4) gX4_balanceAnew_X3_balanceOf rfl dX4_balanceAnew_10 rfl rfl (by decide +kernel) ⟨Nat.le_of_ble_eq_true rfl, Nat.le_of_ble_eq_true rfl⟩ rfl (Nat.le_of_ble_eq_true rfl) ⟨Nat.le_of_ble_eq_true rfl, Nat.le_of_ble_eq_true rfl⟩ rfl ?_
  refine m_aload_n hC dX4_balanceAnew_13 0 rfl ?_
  refine m_getR (o := 0) (j := 4) (a := 13) (CN := RX4) (T := TX4) (N := 9) hC iX4_balanceAnew_4 fX4_balanceAnew_35 rfl dX4_balanceAnew_14 rfl rfl (by decide) rfl ?_
  refine m_iload_n hC dX4_balanceAnew_17 1 rfl ?_
  refine m_callVi (n := 1) hC (c_col14 (by omega)) gX4_balanceAnew_X2_columnSum rfl dX4_balanceAnew_18 rfl rfl (by decide +kernel) ⟨Nat.le_of_ble_eq_true rfl, Nat.le_of_ble_eq_true rfl⟩ rfl (Nat.le_of_ble_eq_true rfl) ⟨Nat.le_of_ble_eq_true rfl, Nat.le_of_ble_eq_true rfl⟩ rfl ?_
  refine m_iadd hC dX4_balanceAnew_21 ?_
  refine m_aload_n hC dX4_balanceAnew_22 0 rfl ?_
  refine m_getR (o := 0) (j := 4) (a := 13) (CN := RX4) (T := TX4) (N := 9) hC iX4_balanceAnew_4 fX4_balanceAnew_35 rfl dX4_balanceAnew_23 rfl rfl (by decide) rfl ?_
  refine m_iload_n hC dX4_balanceAnew_26 1 rfl ?_
  refine m_callVi (n := 1) hC (c_row14 (by omega)) gX4_balanceAnew_X2_rowSum rfl dX4_balanceAnew_27 rfl rfl (by decide +kernel) ⟨Nat.le_of_ble_eq_true rfl, Nat.le_of_ble_eq_true rfl⟩ rfl (Nat.le_of_ble_eq_true rfl) ⟨Nat.le_of_ble_eq_true rfl, Nat.le_of_ble_eq_true rfl⟩ rfl ?_
  refine m_isub hC dX4_balanceAnew_30 ?_
  refine x_iret hC hR (Or.inl rfl) dX4_balanceAnew_31 ⟨Nat.le_of_ble_eq_true rfl, Nat.le_of_ble_eq_true rfl⟩ (XI_mk (by unfold cxBal; rw [sq0 x_2]) ?_ ?_)
  · first | rfl | omega
  · rfl
set_option maxHeartbeats 4000000 in
set_option maxRecDepth 100000 in
theorem c_X4_limit {g : mG} {S : Mem} {x : Int} (hx : -2147483648 ≤ x ∧ x < 2147483648) (hg : Rg S) (l : Launch) : DoesX l yX4_limit wsX4_limit ({ frames := 7, cells := 1, slots := 6, locals := 137 } : Room) g [.ref (g.2.2 0), .int (z32 x)] S (XI (cxLim S x) (lim S x) (S)) (XE (cxLim S x) S) := by
  refine DoesX.of (cc := cX4_limit) (maxL := 2) (ret := (some .int)) (own := RX4) (by decide) rfl rfl (Nat.le_of_ble_eq_true rfl) ?_
  intro C hC hX hR
  show MW C g 2 (0, 0) 0 [(0, .ref (g.2.2 0)), (1, .int (z32 x))] [] S
  refine m_aload_n hC dX4_limit_0 0 rfl ?_
  refine m_iload_n hC dX4_limit_1 1 rfl ?_
  refine x_callVv (n := 1) hC hX hR (c_X4_needShop hx hg) gX4_limit_X4_needShop rfl dX4_limit_2 rfl rfl (by decide +kernel) ⟨Nat.le_of_ble_eq_true rfl, Nat.le_of_ble_eq_true rfl⟩ rfl (Nat.le_of_ble_eq_true rfl) ⟨Nat.le_of_ble_eq_true rfl, Nat.le_of_ble_eq_true rfl⟩ rfl (fun E9 S9 q9 => by unfold cxLim; exact XE_l q9) (fun x_2 => ?_)
  have l1 := liv_in (xnS_in x_2) hg
  refine m_aload_n hC dX4_limit_5 0 rfl ?_
  refine m_iload_n hC dX4_limit_6 1 rfl ?_
  refine m_callVi (n := 1) hC (c_X4_limitOf (by omega) hg) gX4_limit_X4_limitOf rfl dX4_limit_7 rfl rfl (by decide +kernel) ⟨Nat.le_of_ble_eq_true rfl, Nat.le_of_ble_eq_true rfl⟩ rfl (Nat.le_of_ble_eq_true rfl) ⟨Nat.le_of_ble_eq_true rfl, Nat.le_of_ble_eq_true rfl⟩ rfl ?_
  refine x_iret hC hR (Or.inl rfl) dX4_limit_10 ⟨Nat.le_of_ble_eq_true rfl, Nat.le_of_ble_eq_true rfl⟩ (XI_mk (by unfold cxLim; rw [sq0 x_2]) ?_ ?_)
  · first | rfl | omega
  · rfl
theorem iX4_owes_4 : ∀ w ∈ wsX40, w ∈ wsX4_owes := by decide +kernel
theorem fX4_owes_28 : Cond.fieldLink RX4 28 "Mutualledger" "debts" "LMutualledger$Debts;" ∈ wsX4_owes := by decide +kernel
set_option maxHeartbeats 4000000 in
set_option maxRecDepth 100000 in
theorem c_X4_owes {g : mG} {S : Mem} {x : Int} (hx : -2147483648 ≤ x ∧ x < 2147483648) {y : Int} (hy : -2147483648 ≤ y ∧ y < 2147483648) (hg : Rg S) (l : Launch) : DoesX l yX4_owes wsX4_owes ({ frames := 8, cells := 2, slots := 12, locals := 132 } : Room) g [.ref (g.2.2 0), .int (z32 x), .int (z32 y)] S (XI (cxOwes S x y) (S 8 (ix x y)) (S)) (XE (cxOwes S x y) S) := by
  refine DoesX.of (cc := cX4_owes) (maxL := 3) (ret := (some .int)) (own := RX4) (by decide) rfl rfl (Nat.le_of_ble_eq_true rfl) ?_
  intro C hC hX hR
  show MW C g 3 (0, 0) 0 [(0, .ref (g.2.2 0)), (1, .int (z32 x)), (2, .int (z32 y))] [] S
  refine m_aload_n hC dX4_owes_0 0 rfl ?_
  refine m_iload_n hC dX4_owes_1 1 rfl ?_
  refine x_callVv (n := 1) hC hX hR (c_X4_needShopEver hx hg) gX4_owes_X4_needShopEver rfl dX4_owes_2 rfl rfl (by decide +kernel) ⟨Nat.le_of_ble_eq_true rfl, Nat.le_of_ble_eq_true rfl⟩ rfl (Nat.le_of_ble_eq_true rfl) ⟨Nat.le_of_ble_eq_true rfl, Nat.le_of_ble_eq_true rfl⟩ rfl (fun E9 S9 q9 => by unfold cxOwes; exact XE_l q9) (fun x_2 => ?_)
  have l1 := was_in (xnW_in x_2) hg
  refine m_aload_n hC dX4_owes_5 0 rfl ?_
  refine m_iload_n hC dX4_owes_6 2 rfl ?_
  refine x_callVv (n := 1) hC hX hR (c_X4_needShopEverOrHouse hy hg) gX4_owes_X4_needShopEverOrHouse rfl dX4_owes_7 rfl rfl (by decide +kernel) ⟨Nat.le_of_ble_eq_true rfl, Nat.le_of_ble_eq_true rfl⟩ rfl (Nat.le_of_ble_eq_true rfl) ⟨Nat.le_of_ble_eq_true rfl, Nat.le_of_ble_eq_true rfl⟩ rfl (fun E9 S9 q9 => by unfold cxOwes; rw [sq0 x_2]; exact XE_l q9) (fun x_7 => ?_)
  have l2 := xnH_in x_7 hg
  refine m_aload_n hC dX4_owes_10 0 rfl ?_
  refine m_getR (o := 0) (j := 2) (a := 6) (CN := RX4) (T := TX4) (N := 9) hC iX4_owes_4 fX4_owes_28 rfl dX4_owes_11 rfl rfl (by decide) rfl ?_
  refine m_iload_n hC dX4_owes_14 1 rfl ?_
  refine m_iload_n hC dX4_owes_15 2 rfl ?_
  refine m_callVi (n := 2) hC (c_owed9 (by omega) (by omega)) gX4_owes_X0_owed rfl dX4_owes_16 rfl rfl (by decide +kernel) ⟨Nat.le_of_ble_eq_true rfl, Nat.le_of_ble_eq_true rfl⟩ rfl (Nat.le_of_ble_eq_true rfl) ⟨Nat.le_of_ble_eq_true rfl, Nat.le_of_ble_eq_true rfl⟩ rfl ?_
  refine x_iret hC hR (Or.inl rfl) dX4_owes_19 ⟨Nat.le_of_ble_eq_true rfl, Nat.le_of_ble_eq_true rfl⟩ (XI_mk (by unfold cxOwes; rw [sq0 x_2, sq0 x_7]) ?_ ?_)
  · first | rfl | omega
  · rfl
theorem iX4_frozen_4 : ∀ w ∈ wsX40, w ∈ wsX4_frozen := by decide +kernel
theorem fX4_frozen_28 : Cond.fieldLink RX4 28 "Mutualledger" "debts" "LMutualledger$Debts;" ∈ wsX4_frozen := by decide +kernel
set_option maxHeartbeats 4000000 in
set_option maxRecDepth 100000 in
theorem c_X4_frozen {g : mG} {S : Mem} {x : Int} (hx : -2147483648 ≤ x ∧ x < 2147483648) {y : Int} (hy : -2147483648 ≤ y ∧ y < 2147483648) (hg : Rg S) (l : Launch) : DoesX l yX4_frozen wsX4_frozen ({ frames := 7, cells := 2, slots := 12, locals := 111 } : Room) g [.ref (g.2.2 0), .int (z32 x), .int (z32 y)] S (XI (cxTwo S x y) (S 10 (ix x y)) (S)) (XE (cxTwo S x y) S) := by
  refine DoesX.of (cc := cX4_frozen) (maxL := 3) (ret := (some .int)) (own := RX4) (by decide) rfl rfl (Nat.le_of_ble_eq_true rfl) ?_
  intro C hC hX hR
  show MW C g 3 (0, 0) 0 [(0, .ref (g.2.2 0)), (1, .int (z32 x)), (2, .int (z32 y))] [] S
  refine m_aload_n hC dX4_frozen_0 0 rfl ?_
  refine m_iload_n hC dX4_frozen_1 1 rfl ?_
  refine x_callVv (n := 1) hC hX hR (c_X4_needShopEver hx hg) gX4_frozen_X4_needShopEver rfl dX4_frozen_2 rfl rfl (by decide +kernel) ⟨Nat.le_of_ble_eq_true rfl, Nat.le_of_ble_eq_true rfl⟩ rfl (Nat.le_of_ble_eq_true rfl) ⟨Nat.le_of_ble_eq_true rfl, Nat.le_of_ble_eq_true rfl⟩ rfl (fun E9 S9 q9 => by unfold cxTwo; exact XE_l q9) (fun x_2 => ?_)
  have l1 := was_in (xnW_in x_2) hg
  refine m_aload_n hC dX4_frozen_5 0 rfl ?_
  refine m_iload_n hC dX4_frozen_6 2 rfl ?_
  refine x_callVv (n := 1) hC hX hR (c_X4_needShopEver hy hg) gX4_frozen_X4_needShopEver rfl dX4_frozen_7 rfl rfl (by decide +kernel) ⟨Nat.le_of_ble_eq_true rfl, Nat.le_of_ble_eq_true rfl⟩ rfl (Nat.le_of_ble_eq_true rfl) ⟨Nat.le_of_ble_eq_true rfl, Nat.le_of_ble_eq_true rfl⟩ rfl (fun E9 S9 q9 => by unfold cxTwo; rw [sq0 x_2]; exact XE_l q9) (fun x_7 => ?_)
  have l2 := was_in (xnW_in x_7) hg
  refine m_aload_n hC dX4_frozen_10 0 rfl ?_
  refine m_getR (o := 0) (j := 2) (a := 6) (CN := RX4) (T := TX4) (N := 9) hC iX4_frozen_4 fX4_frozen_28 rfl dX4_frozen_11 rfl rfl (by decide) rfl ?_
  refine m_iload_n hC dX4_frozen_14 1 rfl ?_
  refine m_iload_n hC dX4_frozen_15 2 rfl ?_
  refine m_callVi (n := 2) hC (c_X0_frozenPart hx hy) gX4_frozen_X0_frozenPart rfl dX4_frozen_16 rfl rfl (by decide +kernel) ⟨Nat.le_of_ble_eq_true rfl, Nat.le_of_ble_eq_true rfl⟩ rfl (Nat.le_of_ble_eq_true rfl) ⟨Nat.le_of_ble_eq_true rfl, Nat.le_of_ble_eq_true rfl⟩ rfl ?_
  refine x_iret hC hR (Or.inl rfl) dX4_frozen_19 ⟨Nat.le_of_ble_eq_true rfl, Nat.le_of_ble_eq_true rfl⟩ (XI_mk (by unfold cxTwo; rw [sq0 x_2, sq0 x_7]) ?_ ?_)
  · exact tg_ix (by omega) (by omega)
  · rfl
theorem iX4_ofTrade_4 : ∀ w ∈ wsX40, w ∈ wsX4_ofTrade := by decide +kernel
theorem fX4_ofTrade_21 : Cond.fieldLink RX4 21 "Mutualledger" "trades" "LMutualledger$Trades;" ∈ wsX4_ofTrade := by decide +kernel
set_option maxHeartbeats 4000000 in
set_option maxRecDepth 100000 in
theorem c_X4_ofTrade {g : mG} {S : Mem} {t : Int} (ht : -2147483648 ≤ t ∧ t < 2147483648) {w : Int} (hw : -2147483648 ≤ w ∧ w < 2147483648) (hg : Rg S) (l : Launch) : DoesX l yX4_ofTrade wsX4_ofTrade ({ frames := 7, cells := 2, slots := 12, locals := 112 } : Room) g [.ref (g.2.2 0), .int (z32 t), .int (z32 w)] S (XI (cxOfT S t w) (trd S t w) (S)) (XE (cxOfT S t w) S) := by
  refine DoesX.of (cc := cX4_ofTrade) (maxL := 3) (ret := (some .int)) (own := RX4) (by decide) rfl rfl (Nat.le_of_ble_eq_true rfl) ?_
  intro C hC hX hR
  show MW C g 3 (0, 0) 0 [(0, .ref (g.2.2 0)), (1, .int (z32 t)), (2, .int (z32 w))] [] S
  refine m_aload_n hC dX4_ofTrade_0 0 rfl ?_
  refine m_iload_n hC dX4_ofTrade_1 1 rfl ?_
  refine x_callVv (n := 1) hC hX hR (c_X4_needTrade ht hg) gX4_ofTrade_X4_needTrade rfl dX4_ofTrade_2 rfl rfl (by decide +kernel) ⟨Nat.le_of_ble_eq_true rfl, Nat.le_of_ble_eq_true rfl⟩ rfl (Nat.le_of_ble_eq_true rfl) ⟨Nat.le_of_ble_eq_true rfl, Nat.le_of_ble_eq_true rfl⟩ rfl (fun E9 S9 q9 => by unfold cxOfT; exact XE_l q9) (fun x_2 => ?_)
  refine m_iload_n hC dX4_ofTrade_5 2 rfl ?_
  refine m_iconst (v := 0) hC dX4_ofTrade_6 (by decide) ?_
  refine m_iconst (v := 5) hC dX4_ofTrade_7 (by decide) ?_
  refine x_callSv (n := 3) hC hX hR (c_X4_needRange hw (by omega) (by omega)) gX4_ofTrade_X4_needRange rfl dX4_ofTrade_8 (by decide +kernel) ⟨Nat.le_of_ble_eq_true rfl, Nat.le_of_ble_eq_true rfl⟩ rfl (Nat.le_of_ble_eq_true rfl) ⟨Nat.le_of_ble_eq_true rfl, Nat.le_of_ble_eq_true rfl⟩ rfl (fun E9 S9 q9 => by unfold cxOfT; rw [sq0 x_2]; exact XE_l q9) (fun x_8 => ?_)
  refine m_aload_n hC dX4_ofTrade_11 0 rfl ?_
  refine m_getR (o := 0) (j := 1) (a := 3) (CN := RX4) (T := TX4) (N := 9) hC iX4_ofTrade_4 fX4_ofTrade_21 rfl dX4_ofTrade_12 rfl rfl (by decide) rfl ?_
  refine m_iload_n hC dX4_ofTrade_15 1 rfl ?_
  refine m_iload_n hC dX4_ofTrade_16 2 rfl ?_
  refine m_callVi (n := 2) hC (c_X3_of ht hw) gX4_ofTrade_X3_of rfl dX4_ofTrade_17 rfl rfl (by decide +kernel) ⟨Nat.le_of_ble_eq_true rfl, Nat.le_of_ble_eq_true rfl⟩ rfl (Nat.le_of_ble_eq_true rfl) ⟨Nat.le_of_ble_eq_true rfl, Nat.le_of_ble_eq_true rfl⟩ rfl ?_
  refine x_iret hC hR (Or.inl rfl) dX4_ofTrade_20 ⟨Nat.le_of_ble_eq_true rfl, Nat.le_of_ble_eq_true rfl⟩ (XI_mk (by unfold cxOfT; rw [sq0 x_2, sq0 x_8]) ?_ ?_)
  · first | rfl | omega
  · rfl
theorem iX4_guaranteed_4 : ∀ w ∈ wsX40, w ∈ wsX4_guaranteed := by decide +kernel
theorem fX4_guaranteed_32 : Cond.fieldLink RX4 32 "Mutualledger" "guarantees" "LMutualledger$Table;" ∈ wsX4_guaranteed := by decide +kernel
set_option maxHeartbeats 4000000 in
set_option maxRecDepth 100000 in
theorem c_X4_guaranteed {g : mG} {S : Mem} {x : Int} (hx : -2147483648 ≤ x ∧ x < 2147483648) {y : Int} (hy : -2147483648 ≤ y ∧ y < 2147483648) (hg : Rg S) (l : Launch) : DoesX l yX4_guaranteed wsX4_guaranteed ({ frames := 7, cells := 2, slots := 12, locals := 111 } : Room) g [.ref (g.2.2 0), .int (z32 x), .int (z32 y)] S (XI (cxTwo S x y) (S 12 (ix x y)) (S)) (XE (cxTwo S x y) S) := by
  refine DoesX.of (cc := cX4_guaranteed) (maxL := 3) (ret := (some .int)) (own := RX4) (by decide) rfl rfl (Nat.le_of_ble_eq_true rfl) ?_
  intro C hC hX hR
  show MW C g 3 (0, 0) 0 [(0, .ref (g.2.2 0)), (1, .int (z32 x)), (2, .int (z32 y))] [] S
  refine m_aload_n hC dX4_guaranteed_0 0 rfl ?_
  refine m_iload_n hC dX4_guaranteed_1 1 rfl ?_
  refine x_callVv (n := 1) hC hX hR (c_X4_needShopEver hx hg) gX4_guaranteed_X4_needShopEver rfl dX4_guaranteed_2 rfl rfl (by decide +kernel) ⟨Nat.le_of_ble_eq_true rfl, Nat.le_of_ble_eq_true rfl⟩ rfl (Nat.le_of_ble_eq_true rfl) ⟨Nat.le_of_ble_eq_true rfl, Nat.le_of_ble_eq_true rfl⟩ rfl (fun E9 S9 q9 => by unfold cxTwo; exact XE_l q9) (fun x_2 => ?_)
  have l1 := was_in (xnW_in x_2) hg
  refine m_aload_n hC dX4_guaranteed_5 0 rfl ?_
  refine m_iload_n hC dX4_guaranteed_6 2 rfl ?_
  refine x_callVv (n := 1) hC hX hR (c_X4_needShopEver hy hg) gX4_guaranteed_X4_needShopEver rfl dX4_guaranteed_7 rfl rfl (by decide +kernel) ⟨Nat.le_of_ble_eq_true rfl, Nat.le_of_ble_eq_true rfl⟩ rfl (Nat.le_of_ble_eq_true rfl) ⟨Nat.le_of_ble_eq_true rfl, Nat.le_of_ble_eq_true rfl⟩ rfl (fun E9 S9 q9 => by unfold cxTwo; rw [sq0 x_2]; exact XE_l q9) (fun x_7 => ?_)
  have l2 := was_in (xnW_in x_7) hg
  refine m_aload_n hC dX4_guaranteed_10 0 rfl ?_
  refine m_getR (o := 0) (j := 3) (a := 11) (CN := RX4) (T := TX4) (N := 9) hC iX4_guaranteed_4 fX4_guaranteed_32 rfl dX4_guaranteed_11 rfl rfl (by decide) rfl ?_
  refine m_iload_n hC dX4_guaranteed_14 1 rfl ?_
  refine m_iload_n hC dX4_guaranteed_15 2 rfl ?_
  refine m_callVi (n := 2) hC (c_get12 (by omega) (by omega)) gX4_guaranteed_X2_get rfl dX4_guaranteed_16 rfl rfl (by decide +kernel) ⟨Nat.le_of_ble_eq_true rfl, Nat.le_of_ble_eq_true rfl⟩ rfl (Nat.le_of_ble_eq_true rfl) ⟨Nat.le_of_ble_eq_true rfl, Nat.le_of_ble_eq_true rfl⟩ rfl ?_
  refine x_iret hC hR (Or.inl rfl) dX4_guaranteed_19 ⟨Nat.le_of_ble_eq_true rfl, Nat.le_of_ble_eq_true rfl⟩ (XI_mk (by unfold cxTwo; rw [sq0 x_2, sq0 x_7]) ?_ ?_)
  · first | rfl | omega
  · rfl
theorem iX4_goods_4 : ∀ w ∈ wsX40, w ∈ wsX4_goods := by decide +kernel
theorem fX4_goods_14 : Cond.fieldLink RX4 14 "Mutualledger" "shops" "LMutualledger$Table;" ∈ wsX4_goods := by decide +kernel
set_option maxHeartbeats 4000000 in
set_option maxRecDepth 100000 in
theorem c_X4_goods {g : mG} {S : Mem} {x : Int} (hx : -2147483648 ≤ x ∧ x < 2147483648) (hg : Rg S) (l : Launch) : DoesX l yX4_goods wsX4_goods ({ frames := 7, cells := 1, slots := 6, locals := 111 } : Room) g [.ref (g.2.2 0), .int (z32 x)] S (XI (cxOne S x) (tg 8 2 (S 2) x 1) (S)) (XE (cxOne S x) S) := by
  refine DoesX.of (cc := cX4_goods) (maxL := 2) (ret := (some .int)) (own := RX4) (by decide) rfl rfl (Nat.le_of_ble_eq_true rfl) ?_
  intro C hC hX hR
  show MW C g 2 (0, 0) 0 [(0, .ref (g.2.2 0)), (1, .int (z32 x))] [] S
  refine m_aload_n hC dX4_goods_0 0 rfl ?_
  refine m_iload_n hC dX4_goods_1 1 rfl ?_
  refine x_callVv (n := 1) hC hX hR (c_X4_needShopEver hx hg) gX4_goods_X4_needShopEver rfl dX4_goods_2 rfl rfl (by decide +kernel) ⟨Nat.le_of_ble_eq_true rfl, Nat.le_of_ble_eq_true rfl⟩ rfl (Nat.le_of_ble_eq_true rfl) ⟨Nat.le_of_ble_eq_true rfl, Nat.le_of_ble_eq_true rfl⟩ rfl (fun E9 S9 q9 => by unfold cxOne; exact XE_l q9) (fun x_2 => ?_)
  refine m_aload_n hC dX4_goods_5 0 rfl ?_
  refine m_getR (o := 0) (j := 0) (a := 1) (CN := RX4) (T := TX4) (N := 9) hC iX4_goods_4 fX4_goods_14 rfl dX4_goods_6 rfl rfl (by decide) rfl ?_
  refine m_iload_n hC dX4_goods_9 1 rfl ?_
  refine m_iconst (v := 1) hC dX4_goods_10 (by decide) ?_
  refine m_callVi (n := 2) hC (c_X2_get T1 hx (by omega)) gX4_goods_X2_get rfl dX4_goods_11 rfl rfl (by decide +kernel) ⟨Nat.le_of_ble_eq_true rfl, Nat.le_of_ble_eq_true rfl⟩ rfl (Nat.le_of_ble_eq_true rfl) ⟨Nat.le_of_ble_eq_true rfl, Nat.le_of_ble_eq_true rfl⟩ rfl ?_
  refine x_iret hC hR (Or.inl rfl) dX4_goods_14 ⟨Nat.le_of_ble_eq_true rfl, Nat.le_of_ble_eq_true rfl⟩ (XI_mk (by unfold cxOne; rw [sq0 x_2]) ?_ ?_)
  · first | rfl | omega
  · rfl
set_option maxHeartbeats 4000000 in
set_option maxRecDepth 100000 in
theorem c_X4_isIdle {g : mG} {S : Mem} {x : Int} (hx : -2147483648 ≤ x ∧ x < 2147483648) (hg : Rg S) (hok : OkD (S 8)) (hfz : Fz (S 8) (S 10)) (l : Launch) : DoesX l yX4_isIdle wsX4_isIdle ({ frames := 7, cells := 1, slots := 6, locals := 134 } : Room) g [.ref (g.2.2 0), .int (z32 x)] S (XI (cxLim S x) (bI (idF S (S 8) x)) (S)) (XE (cxLim S x) S) := by
  refine DoesX.of (cc := cX4_isIdle) (maxL := 2) (ret := (some .boolean)) (own := RX4) (by decide) rfl rfl (Nat.le_of_ble_eq_true rfl) ?_
  intro C hC hX hR
  show MW C g 2 (0, 0) 0 [(0, .ref (g.2.2 0)), (1, .int (z32 x))] [] S
  refine m_aload_n hC dX4_isIdle_0 0 rfl ?_
  refine m_iload_n hC dX4_isIdle_1 1 rfl ?_
  refine x_callVv (n := 1) hC hX hR (c_X4_needShop hx hg) gX4_isIdle_X4_needShop rfl dX4_isIdle_2 rfl rfl (by decide +kernel) ⟨Nat.le_of_ble_eq_true rfl, Nat.le_of_ble_eq_true rfl⟩ rfl (Nat.le_of_ble_eq_true rfl) ⟨Nat.le_of_ble_eq_true rfl, Nat.le_of_ble_eq_true rfl⟩ rfl (fun E9 S9 q9 => by unfold cxLim; exact XE_l q9) (fun x_2 => ?_)
  have l1 := liv_in (xnS_in x_2) hg
  refine m_aload_n hC dX4_isIdle_5 0 rfl ?_
  refine m_iload_n hC dX4_isIdle_6 1 rfl ?_
  refine m_callVi (n := 1) hC (c_X4_isIdleShop (by omega) hg hok.1) gX4_isIdle_X4_isIdleShop rfl dX4_isIdle_7 rfl rfl (by decide +kernel) ⟨Nat.le_of_ble_eq_true rfl, Nat.le_of_ble_eq_true rfl⟩ rfl (Nat.le_of_ble_eq_true rfl) ⟨Nat.le_of_ble_eq_true rfl, Nat.le_of_ble_eq_true rfl⟩ rfl ?_
  refine x_iret hC hR (Or.inr ⟨rfl, bI_rng _⟩) dX4_isIdle_10 ⟨Nat.le_of_ble_eq_true rfl, Nat.le_of_ble_eq_true rfl⟩ (XI_mk (by unfold cxLim; rw [sq0 x_2]) ?_ ?_)
  · first | rfl | omega
  · rfl
theorem xaX4_ring_198 : ∀ w ∈ (vx_atS RX4 198 xIOB ["java/lang/RuntimeException", "java/lang/Exception"]).filter goodWord, w ∈ wsX4_ring := by decide +kernel
theorem iX4_ring_4 : ∀ w ∈ wsX40, w ∈ wsX4_ring := by decide +kernel
theorem fX4_ring_41 : Cond.fieldLink RX4 41 "Mutualledger" "rings" "LMutualledger$Rings;" ∈ wsX4_ring := by decide +kernel
set_option maxHeartbeats 4000000 in
set_option maxRecDepth 100000 in
theorem c_X4_ring {g : mG} {S : Mem} {r : Int} (hr : -2147483648 ≤ r ∧ r < 2147483648) {w : Int} (hw : -2147483648 ≤ w ∧ w < 2147483648) (hg : Rg S) (h15 : 0 ≤ S 15 1 ∧ S 15 1 ≤ 56) (l : Launch) : DoesX l yX4_ring wsX4_ring ({ frames := 7, cells := 1, slots := 6, locals := 112 } : Room) g [.ref (g.2.2 0), .int (z32 r), .int (z32 w)] S (XI (cxRing S r w) (tg 57 7 (S 17) r w) (S)) (XE (cxRing S r w) S) := by
  refine DoesX.of (cc := cX4_ring) (maxL := 3) (ret := (some .int)) (own := RX4) (by decide) rfl rfl (Nat.le_of_ble_eq_true rfl) ?_
  intro C hC hX hR
  show MW C g 3 (0, 0) 0 [(0, .ref (g.2.2 0)), (1, .int (z32 r)), (2, .int (z32 w))] [] S
  refine m_iload_n hC dX4_ring_0 1 rfl ?_
  refine m_if_lt (tgt := 15) hC dX4_ring_1 (by decide) (by omega) (fun c_1 => ?_) (fun c_1 => ?_)
  · refine x_throw (cls := xIOB) (text := "there is no such ring") hC hX hR (by decide +kernel) (by decide +kernel) (by decide +kernel) xaX4_ring_198 xb_198 (by decide) xg_198 dX4_ring_15 dX4_ring_18 dX4_ring_19 dX4_ring_21 dX4_ring_24 (Nat.lt_of_lt_of_le (by decide : 5 < 6) (Nat.le_of_ble_eq_true rfl)) (Nat.le_of_ble_eq_true rfl) ⟨Nat.le_of_ble_eq_true rfl, Nat.le_of_ble_eq_true rfl⟩ ?_
    unfold cxRing
    refine XE_l ?_
    exact XE1 (by rw [if_neg (by omega)])
  · refine m_iload_n hC dX4_ring_4 1 rfl ?_
    refine m_aload_n hC dX4_ring_5 0 rfl ?_
    refine m_getR (o := 0) (j := 5) (a := 15) (CN := RX4) (T := TX4) (N := 9) hC iX4_ring_4 fX4_ring_41 rfl dX4_ring_6 rfl rfl (by decide) rfl ?_
    refine m_callVi (n := 0) hC (c_X1_size) gX4_ring_X1_size rfl dX4_ring_9 rfl rfl (by decide +kernel) ⟨Nat.le_of_ble_eq_true rfl, Nat.le_of_ble_eq_true rfl⟩ rfl (Nat.le_of_ble_eq_true rfl) ⟨Nat.le_of_ble_eq_true rfl, Nat.le_of_ble_eq_true rfl⟩ rfl ?_
    refine m_icmp_lt (tgt := 25) hC dX4_ring_12 (by decide) (by omega) (by omega) (fun c_12 => ?_) (fun c_12 => ?_)
    · have y_12 : (if 0 ≤ r ∧ r < S 15 1 then (0 : Int) else 1) = 0 := if_pos (by omega)
      refine m_iload_n hC dX4_ring_25 2 rfl ?_
      refine m_iconst (v := 0) hC dX4_ring_26 (by decide) ?_
      refine m_bipush (v := 6) hC dX4_ring_27 (by decide) ?_
      refine x_callSv (n := 3) hC hX hR (c_X4_needRange hw (by omega) (by omega)) gX4_ring_X4_needRange rfl dX4_ring_29 (by decide +kernel) ⟨Nat.le_of_ble_eq_true rfl, Nat.le_of_ble_eq_true rfl⟩ rfl (Nat.le_of_ble_eq_true rfl) ⟨Nat.le_of_ble_eq_true rfl, Nat.le_of_ble_eq_true rfl⟩ rfl (fun E9 S9 q9 => by unfold cxRing; rw [sq0 y_12]; exact XE_l q9) (fun x_29 => ?_)
      refine m_aload_n hC dX4_ring_32 0 rfl ?_
      refine m_getR (o := 0) (j := 5) (a := 15) (CN := RX4) (T := TX4) (N := 9) hC iX4_ring_4 fX4_ring_41 rfl dX4_ring_33 rfl rfl (by decide) rfl ?_
      refine m_iload_n hC dX4_ring_36 1 rfl ?_
      refine m_iload_n hC dX4_ring_37 2 rfl ?_
      refine m_callVi (n := 2) hC (c_X1_of hr hw) gX4_ring_X1_of rfl dX4_ring_38 rfl rfl (by decide +kernel) ⟨Nat.le_of_ble_eq_true rfl, Nat.le_of_ble_eq_true rfl⟩ rfl (Nat.le_of_ble_eq_true rfl) ⟨Nat.le_of_ble_eq_true rfl, Nat.le_of_ble_eq_true rfl⟩ rfl ?_
      refine x_iret hC hR (Or.inl rfl) dX4_ring_41 ⟨Nat.le_of_ble_eq_true rfl, Nat.le_of_ble_eq_true rfl⟩ (XI_mk (by unfold cxRing; rw [sq0 y_12, sq0 x_29]) ?_ ?_)
      · first | rfl | omega
      · rfl
    · refine x_throw (cls := xIOB) (text := "there is no such ring") hC hX hR (by decide +kernel) (by decide +kernel) (by decide +kernel) xaX4_ring_198 xb_198 (by decide) xg_198 dX4_ring_15 dX4_ring_18 dX4_ring_19 dX4_ring_21 dX4_ring_24 (Nat.lt_of_lt_of_le (by decide : 5 < 6) (Nat.le_of_ble_eq_true rfl)) (Nat.le_of_ble_eq_true rfl) ⟨Nat.le_of_ble_eq_true rfl, Nat.le_of_ble_eq_true rfl⟩ ?_
      unfold cxRing
      refine XE_l ?_
      exact XE1 (by rw [if_neg (by omega)])
theorem iX4_rings_4 : ∀ w ∈ wsX40, w ∈ wsX4_rings := by decide +kernel
theorem fX4_rings_41 : Cond.fieldLink RX4 41 "Mutualledger" "rings" "LMutualledger$Rings;" ∈ wsX4_rings := by decide +kernel
set_option maxHeartbeats 4000000 in
set_option maxRecDepth 100000 in
theorem c_X4_rings {g : mG} {S : Mem} (l : Launch) : Does l yX4_rings wsX4_rings ({ frames := 1, cells := 0, slots := 0, locals := 20 } : Room) g [.ref (g.2.2 0)] S (PI (S 15 1) S) := by
  refine Does.of (cc := cX4_rings) (maxL := 1) (ret := (some .int)) (own := RX4) (by decide) rfl rfl (Nat.le_of_ble_eq_true rfl) ?_
  intro C hC hR
  show MW C g 1 (0, 0) 0 [(0, .ref (g.2.2 0))] [] S
  refine m_aload_n hC dX4_rings_0 0 rfl ?_
  refine m_getR (o := 0) (j := 5) (a := 15) (CN := RX4) (T := TX4) (N := 9) hC iX4_rings_4 fX4_rings_41 rfl dX4_rings_1 rfl rfl (by decide) rfl ?_
  refine m_callVi (n := 0) hC (c_X1_size) gX4_rings_X1_size rfl dX4_rings_4 rfl rfl (by decide +kernel) ⟨Nat.le_of_ble_eq_true rfl, Nat.le_of_ble_eq_true rfl⟩ rfl (Nat.le_of_ble_eq_true rfl) ⟨Nat.le_of_ble_eq_true rfl, Nat.le_of_ble_eq_true rfl⟩ rfl ?_
  refine m_ireti hC hR (Or.inl rfl) dX4_rings_7 ⟨Nat.le_of_ble_eq_true rfl, Nat.le_of_ble_eq_true rfl⟩ ?_ ?_
  · first | rfl | omega
  · rfl
