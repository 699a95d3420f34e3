/-! ===== the class: leave and night ===== -/
def lvA (S : Mem) (s : Int) : Mem := m3 (mput S 8 (psO s (S 8) 8)) (lgO s (psO s (S 8) 8, S 12, S 14) 9)
def lvB (S : Mem) (s : Int) : Fn × Fn × Int := gbI s (lvA S s 8, lvA S s 14, 0) 9
def lvC (S : Mem) (s : Int) : Mem := m2 (lvA S s) ((lvB S s).1, (lvB S s).2.1)
def lvD (S : Mem) (s : Int) : Fn × Fn × Int := gtI s (lvC S s 8, lvC S s 14, 0) 8
def lvE (S : Mem) (s : Int) : Mem := m2 (lvC S s) ((lvD S s).1, (lvD S s).2.1)
def stLeavC (S : Mem) (s : Int) : Mem := ts (ts (tclr 12 9 9 s (lvE S s) 9) 2 8 2 s 0 1) 2 8 2 s 1 ((lvB S s).2.2 - (lvD S s).2.2)
def ngCR (S S' : Mem) : Prop := ∃ S1 : Mem, raP S S1 ∧ S' = mset (m2 S1 (fsA S1 (S1 8, S1 14) 8)) 0 7 (S1 0 7 + 1)
def ngC : Nat → Mem → Mem → Prop
  | 0, S, S' => S' = S
  | n + 1, S, S' => ∃ S1, ngC n S S1 ∧ ngCR S1 S'
def nGdC (S : Mem) : Prop := Rg S ∧ OkD (S 8) ∧ Fz (S 8) (S 10)
theorem raP_gd {S S1 : Mem} (h : raP S S1) (hg : nGdC S) : nGdC S1 ∧ (∀ o : Nat, o ≠ 8 → o ≠ 15 → o ≠ 17 → S1 o = S o) := by
  obtain ⟨n, hn, hr, -⟩ := h
  have hm := raI_mem hr hg.2.1 hg.2.2
  obtain ⟨q, rfl, -⟩ := hr
  exact ⟨⟨hg.1, hm.1, hm.2.1⟩, fun o a b c => by rw [mput_ne b, mput_ne c, mput_ne a]⟩
theorem pay_gd {S : Mem} (hg : nGdC S) : nGdC (m2 S (fsA S (S 8, S 14) 8)) := by
  have hf := fsA_ok (S := S) (x := (S 8, S 14)) hg.1.2.2.1 ⟨hg.2.1, hg.2.2⟩ (n := 8) (by omega)
  exact ⟨hg.1, hf.1, hf.2⟩
theorem ngCR_gd {S S' : Mem} (h : ngCR S S') (hg : nGdC S) (ht : S 0 7 < 20000) : nGdC S' ∧ S' 0 7 = S 0 7 + 1 := by
  obtain ⟨S1, h1, rfl⟩ := h
  have hk := raP_gd h1 hg
  have hp := pay_gd hk.1
  have e0 : S1 0 = S 0 := hk.2 0 (by decide) (by decide) (by decide)
  have e7 := hg.1.2.1
  refine ⟨⟨⟨hp.1.1, ?_, hp.1.2.2⟩, hp.2⟩, ?_⟩
  · rw [mset_hit, e0]; omega
  · rw [mset_hit, e0]
theorem ngC_gd {S : Mem} : ∀ {n : Nat} {S' : Mem}, ngC n S S' → nGdC S → S 0 7 + n ≤ 20000 → nGdC S' ∧ S' 0 7 = S 0 7 + n
  | 0, S', h, hg, ht => by
    cases (h : S' = S)
    exact ⟨hg, by omega⟩
  | n + 1, S', h, hg, ht => by
    obtain ⟨S1, h1, h2⟩ := h
    have e := ngC_gd h1 hg (by omega)
    have e2 := ngCR_gd h2 e.1 (by omega)
    exact ⟨e2.1, by omega⟩
theorem iX4_leave_4 : ∀ w ∈ wsX40, w ∈ wsX4_leave := by decide +kernel
theorem fX4_leave_21 : Cond.fieldLink RX4 21 "Mutualledger" "trades" "LMutualledger$Trades;" ∈ wsX4_leave := by decide +kernel
theorem fX4_leave_32 : Cond.fieldLink RX4 32 "Mutualledger" "guarantees" "LMutualledger$Table;" ∈ wsX4_leave := by decide +kernel
theorem fX4_leave_14 : Cond.fieldLink RX4 14 "Mutualledger" "shops" "LMutualledger$Table;" ∈ wsX4_leave := by decide +kernel
theorem xaX4_leave_59 : ∀ w ∈ (vx_atS RX4 59 xISE ["java/lang/RuntimeException", "java/lang/Exception"]).filter goodWord, w ∈ wsX4_leave := by decide +kernel
set_option maxHeartbeats 4000000 in
set_option maxRecDepth 100000 in
theorem c_X4_leave {g : mG} {S : Mem} {s : Int} (hs : -2147483648 ≤ s ∧ s < 2147483648) (hg : Rg S) (hok : OkD (S 8)) (hgu : OkD (S 12)) (l : Launch) : DoesX l yX4_leave wsX4_leave ({ frames := 7, cells := 2, slots := 12, locals := 141 } : Room) g [.ref (g.2.2 0), .int (z32 s)] S (XI (cxLeav S s) ((lvB S s).2.2 + (lvD S s).2.2) (stLeavC S s)) (XE (cxLeav S s) S) := by
  refine DoesX.of (cc := cX4_leave) (maxL := 4) (ret := (some .int)) (own := RX4) (by decide) rfl rfl (Nat.le_of_ble_eq_true rfl) ?_
  intro C hC hX hR
  show MW C g 4 (0, 0) 0 [(0, .ref (g.2.2 0)), (1, .int (z32 s))] [] S
  have hgg := hg
  obtain ⟨h1, h2, h3, h4, h5, h6⟩ := hgg
  refine m_aload_n hC dX4_leave_0 0 rfl ?_
  refine m_iload_n hC dX4_leave_1 1 rfl ?_
  refine x_callVv (n := 1) hC hX hR (c_X4_needShop hs hg) gX4_leave_X4_needShop rfl dX4_leave_2 rfl rfl (by decide +kernel) ⟨Nat.le_of_ble_eq_true rfl, Nat.le_of_ble_eq_true rfl⟩ rfl (Nat.le_of_ble_eq_true rfl) ⟨Nat.le_of_ble_eq_true rfl, Nat.le_of_ble_eq_true rfl⟩ rfl (fun E9 S9 q9 => by unfold cxLeav; exact XE_l q9) (fun x_2 => ?_)
  have l1 := liv_in (xnS_in x_2) hg
  have hs9 : 0 ≤ s ∧ s < 9 := by omega
  refine m_aload_n hC dX4_leave_5 0 rfl ?_
  refine m_getR (o := 0) (j := 1) (a := 3) (CN := RX4) (T := TX4) (N := 9) hC iX4_leave_4 fX4_leave_21 rfl dX4_leave_6 rfl rfl (by decide) rfl ?_
  refine m_iload_n hC dX4_leave_9 1 rfl ?_
  refine m_callVi (n := 1) hC (c_X3_hasDisputedOf hs (Rg.trd hg) h4) gX4_leave_X3_hasDisputedOf rfl dX4_leave_10 rfl rfl (by decide +kernel) ⟨Nat.le_of_ble_eq_true rfl, Nat.le_of_ble_eq_true rfl⟩ rfl (Nat.le_of_ble_eq_true rfl) ⟨Nat.le_of_ble_eq_true rfl, Nat.le_of_ble_eq_true rfl⟩ rfl ?_
  refine m_if_eq (tgt := 26) hC dX4_leave_13 (by decide) (bI_32 _) (fun c_13 => ?_) (fun c_13 => ?_)
  · have b_13 := bI_0 c_13
    have y_13 : (if anyI (fun t => isof S s t && decide (trd S t 0 = 1)) (S 3 1).toNat = true then (3 : Int) else 0) = 0 := if_neg (by rw [b_13]; decide)
    refine m_aload_n hC dX4_leave_26 0 rfl ?_
    refine m_iload_n hC dX4_leave_27 1 rfl ?_
    refine m_callVv (n := 1) hC (c_X4_passDebtsThrough hs9 hok) gX4_leave_X4_passDebtsThrough rfl dX4_leave_28 rfl rfl (by decide +kernel) ⟨Nat.le_of_ble_eq_true rfl, Nat.le_of_ble_eq_true rfl⟩ rfl (Nat.le_of_ble_eq_true rfl) ⟨Nat.le_of_ble_eq_true rfl, Nat.le_of_ble_eq_true rfl⟩ rfl ?_
    have hlg : lgOk (psO s (S 8) 8, S 12, S 14) := ⟨psO_ok hs9 hok (by omega), hgu⟩
    refine m_aload_n hC dX4_leave_31 0 rfl ?_
    refine m_iload_n hC dX4_leave_32 1 rfl ?_
    refine m_callVv (n := 1) hC (c_X4_letGuarantorsPay (S := mput S 8 (psO s (S 8) 8)) hs9 hlg) gX4_leave_X4_letGuarantorsPay rfl dX4_leave_33 rfl rfl (by decide +kernel) ⟨Nat.le_of_ble_eq_true rfl, Nat.le_of_ble_eq_true rfl⟩ rfl (Nat.le_of_ble_eq_true rfl) ⟨Nat.le_of_ble_eq_true rfl, Nat.le_of_ble_eq_true rfl⟩ rfl ?_
    rw [show m3 (mput S 8 (psO s (S 8) 8)) (lgO s (mput S 8 (psO s (S 8) 8) 8, mput S 8 (psO s (S 8) 8) 12, mput S 8 (psO s (S 8) 8) 14) 9) = lvA S s from rfl]
    refine m_aload_n hC dX4_leave_36 0 rfl ?_
    refine m_iload_n hC dX4_leave_37 1 rfl ?_
    refine m_callVi (n := 1) hC (c_X4_oweInGoodsBy hs9) gX4_leave_X4_oweInGoodsBy rfl dX4_leave_38 rfl rfl (by decide +kernel) ⟨Nat.le_of_ble_eq_true rfl, Nat.le_of_ble_eq_true rfl⟩ rfl (Nat.le_of_ble_eq_true rfl) ⟨Nat.le_of_ble_eq_true rfl, Nat.le_of_ble_eq_true rfl⟩ rfl ?_
    rw [show gbI s (lvA S s 8, lvA S s 14, 0) 9 = lvB S s from rfl, show m2 (lvA S s) ((lvB S s).1, (lvB S s).2.1) = lvC S s from rfl]
    refine m_istore_n hC dX4_leave_41 (fun z9 => [(2, .int (z32 z9)), (0, .ref (g.2.2 0)), (1, .int (z32 s))]) (by decide) (fun _ => rfl) (fun v2_41 hv2_41 => ?_)
    refine m_aload_n hC dX4_leave_42 1 rfl ?_
    refine m_iload_n hC dX4_leave_43 2 rfl ?_
    refine m_callVi (n := 1) hC (c_X4_oweInGoodsTo hs9) gX4_leave_X4_oweInGoodsTo rfl dX4_leave_44 rfl rfl (by decide +kernel) ⟨Nat.le_of_ble_eq_true rfl, Nat.le_of_ble_eq_true rfl⟩ rfl (Nat.le_of_ble_eq_true rfl) ⟨Nat.le_of_ble_eq_true rfl, Nat.le_of_ble_eq_true rfl⟩ rfl ?_
    rw [show gtI s (lvC S s 8, lvC S s 14, 0) 8 = lvD S s from rfl, show m2 (lvC S s) ((lvD S s).1, (lvD S s).2.1) = lvE S s from rfl]
    refine m_istore_n hC dX4_leave_47 (fun z9 => [(3, .int (z32 z9)), (2, .int (z32 v2_41)), (0, .ref (g.2.2 0)), (1, .int (z32 s))]) (by decide) (fun _ => rfl) (fun v3_47 hv3_47 => ?_)
    refine m_aload_n hC dX4_leave_48 2 rfl ?_
    refine m_getR (o := 0) (j := 3) (a := 11) (CN := RX4) (T := TX4) (N := 9) hC iX4_leave_4 fX4_leave_32 rfl dX4_leave_49 rfl rfl (by decide) rfl ?_
    refine m_iload_n hC dX4_leave_52 3 rfl ?_
    refine m_callVv (n := 1) hC (c_X2_clearAllOf T11 hs) gX4_leave_X2_clearAllOf rfl dX4_leave_53 rfl rfl (by decide +kernel) ⟨Nat.le_of_ble_eq_true rfl, Nat.le_of_ble_eq_true rfl⟩ rfl (Nat.le_of_ble_eq_true rfl) ⟨Nat.le_of_ble_eq_true rfl, Nat.le_of_ble_eq_true rfl⟩ rfl ?_
    refine m_aload_n hC dX4_leave_56 2 rfl ?_
    refine m_getR (o := 0) (j := 0) (a := 1) (CN := RX4) (T := TX4) (N := 9) hC iX4_leave_4 fX4_leave_14 rfl dX4_leave_57 rfl rfl (by decide) rfl ?_
    refine m_iload_n hC dX4_leave_60 3 rfl ?_
    refine m_iconst (v := 0) hC dX4_leave_61 (by decide) ?_
    refine m_iconst (v := 1) hC dX4_leave_62 (by decide) ?_
    refine m_callVv (n := 3) hC (c_X2_set T1 hs (by omega)) gX4_leave_X2_set rfl dX4_leave_63 rfl rfl (by decide +kernel) ⟨Nat.le_of_ble_eq_true rfl, Nat.le_of_ble_eq_true rfl⟩ rfl (Nat.le_of_ble_eq_true rfl) ⟨Nat.le_of_ble_eq_true rfl, Nat.le_of_ble_eq_true rfl⟩ rfl ?_
    refine m_aload_n hC dX4_leave_66 2 rfl ?_
    refine m_getR (o := 0) (j := 0) (a := 1) (CN := RX4) (T := TX4) (N := 9) hC iX4_leave_4 fX4_leave_14 rfl dX4_leave_67 rfl rfl (by decide) rfl ?_
    refine m_iload_n hC dX4_leave_70 3 rfl ?_
    refine m_iconst (v := 1) hC dX4_leave_71 (by decide) ?_
    refine m_iload_n hC dX4_leave_72 1 rfl ?_
    refine m_iload_n hC dX4_leave_73 0 rfl ?_
    refine m_isub hC dX4_leave_74 ?_
    refine m_callVv (n := 3) hC (c_X2_set T1 hs (by omega)) gX4_leave_X2_set rfl dX4_leave_75 rfl rfl (by decide +kernel) ⟨Nat.le_of_ble_eq_true rfl, Nat.le_of_ble_eq_true rfl⟩ rfl (Nat.le_of_ble_eq_true rfl) ⟨Nat.le_of_ble_eq_true rfl, Nat.le_of_ble_eq_true rfl⟩ rfl ?_
    refine m_iload_n hC dX4_leave_78 1 rfl ?_
    refine m_iload_n hC dX4_leave_79 0 rfl ?_
    refine m_iadd hC dX4_leave_80 ?_
    refine x_iret hC hR (Or.inl rfl) dX4_leave_81 ⟨Nat.le_of_ble_eq_true rfl, Nat.le_of_ble_eq_true rfl⟩ (XI_mk (by unfold cxLeav; rw [sq0 x_2, sq0 y_13]) ?_ ?_)
    · rw [hv2_41, hv3_47]
    · rw [hv2_41, hv3_47]; rfl
  · have b_13 := bI_1 c_13
    refine x_throw (cls := xISE) (text := "a trade of the shop is disputed") hC hX hR (by decide +kernel) (by decide +kernel) (by decide +kernel) xaX4_leave_59 xb_59 (by decide) xg_59 dX4_leave_16 dX4_leave_19 dX4_leave_20 dX4_leave_22 dX4_leave_25 (Nat.lt_of_lt_of_le (by decide : 5 < 6) (Nat.le_of_ble_eq_true rfl)) (Nat.le_of_ble_eq_true rfl) ⟨Nat.le_of_ble_eq_true rfl, Nat.le_of_ble_eq_true rfl⟩ ?_
    unfold cxLeav
    rw [sq0 x_2]
    refine XE_l ?_
    exact XE3 (by rw [if_pos b_13])
theorem iX4_night_4 : ∀ w ∈ wsX40, w ∈ wsX4_night := by decide +kernel
theorem fX4_night_49 : Cond.fieldLink RX4 49 "Mutualledger" "today" "I" ∈ wsX4_night := by decide +kernel
theorem fX4_night_41 : Cond.fieldLink RX4 41 "Mutualledger" "rings" "LMutualledger$Rings;" ∈ wsX4_night := by decide +kernel
theorem fX4_night_28 : Cond.fieldLink RX4 28 "Mutualledger" "debts" "LMutualledger$Debts;" ∈ wsX4_night := by decide +kernel
set_option maxHeartbeats 4000000 in
set_option maxRecDepth 100000 in
theorem c_X4_night {g : mG} {S : Mem} {x : Int} (hx : -2147483648 ≤ x ∧ x < 2147483648) (hgd : nGdC S) (ht : S 0 7 + 20 ≤ 20000) (l : Launch) : DoesX l yX4_night wsX4_night ({ frames := 10, cells := 1, slots := 6, locals := 243 } : Room) g [.ref (g.2.2 0), .int (z32 x)] S (XIx (cxNight x) (fun v S' => v = S' 0 7 ∧ ngC x.toNat S S')) (XE (cxNight x) S) := by
  refine DoesX.of (cc := cX4_night) (maxL := 3) (ret := (some .int)) (own := RX4) (by decide) rfl rfl (Nat.le_of_ble_eq_true rfl) ?_
  intro C hC hX hR
  show MW C g 3 (0, 0) 0 [(0, .ref (g.2.2 0)), (1, .int (z32 x))] [] S
  refine m_iload_n hC dX4_night_0 1 rfl ?_
  refine m_iconst (v := 1) hC dX4_night_1 (by decide) ?_
  refine m_bipush (v := 20) hC dX4_night_2 (by decide) ?_
  refine x_callSv (n := 3) hC hX hR (c_X4_needRange hx (by omega) (by omega)) gX4_night_X4_needRange rfl dX4_night_4 (by decide +kernel) ⟨Nat.le_of_ble_eq_true rfl, Nat.le_of_ble_eq_true rfl⟩ rfl (Nat.le_of_ble_eq_true rfl) ⟨Nat.le_of_ble_eq_true rfl, Nat.le_of_ble_eq_true rfl⟩ rfl (fun E9 S9 q9 => by unfold cxNight; exact XE_l q9) (fun x_4 => ?_)
  have l3 := xnR_in x_4
  refine m_iconst (v := 0) hC dX4_night_7 (by decide) ?_
  refine m_istore_n hC dX4_night_8 (fun z9 => [(2, .int (z32 z9)), (0, .ref (g.2.2 0)), (1, .int (z32 x))]) (by decide) (fun _ => rfl) (fun v2_8 hv2_8 => ?_)
  have L9 : ∀ (n9 : Nat) (i : Nat) (y : Int) (S1 : Mem), x - y < (n9 : Int) → y = (i : Int) → (i : Int) ≤ x → ngC i S S1 → MW C g 3 (1, 6) 9 [(0, .ref (g.2.2 0)), (1, .int (z32 x)), (2, .int (z32 y))] [] S1 := by
    intro n9
    induction n9 with
    | zero => intros; exfalso; omega
    | succ n9 ih9 =>
      intro i y S1 hm9 hy hi hN
      have hq := ngC_gd hN hgd (by omega)
      refine m_iload_n hC dX4_night_9 2 rfl ?_
      refine m_iload_n hC dX4_night_10 1 rfl ?_
      refine m_icmp_ge (tgt := 51) hC dX4_night_11 (by decide) (by omega) (by omega) (fun c_11 => ?_) (fun c_11 => ?_)
      · refine m_aload_n hC dX4_night_51 0 rfl ?_
        refine m_getI (o := 0) (j := 7) (ji := 7) (CN := RX4) (T := TX4) (N := 9) hC iX4_night_4 fX4_night_49 rfl dX4_night_52 rfl rfl (by decide) rfl rfl ?_
        refine x_iret hC hR (Or.inl rfl) dX4_night_55 ⟨Nat.le_of_ble_eq_true rfl, Nat.le_of_ble_eq_true rfl⟩ (XIx_mk (by unfold cxNight; rw [sq0 x_4]) ?_)
        refine ⟨rfl, ?_⟩
        rw [show x.toNat = i by omega]; exact hN
      · refine m_iload_n hC dX4_night_14 2 rfl ?_
        refine m_bipush (v := 20) hC dX4_night_15 (by decide) ?_
        refine m_icmp_ge (tgt := 51) hC dX4_night_17 (by decide) (by omega) (by omega) (fun c_17 => ?_) (fun c_17 => ?_)
        · exfalso; omega
        · refine m_aload_n hC dX4_night_20 0 rfl ?_
          refine m_getR (o := 0) (j := 5) (a := 15) (CN := RX4) (T := TX4) (N := 9) hC iX4_night_4 fX4_night_41 rfl dX4_night_21 rfl rfl (by decide) rfl ?_
          refine m_aload_n hC dX4_night_24 0 rfl ?_
          refine m_getR (o := 0) (j := 2) (a := 6) (CN := RX4) (T := TX4) (N := 9) hC iX4_night_4 fX4_night_28 rfl dX4_night_25 rfl rfl (by decide) rfl ?_
          refine m_callVvx (n := 1) hC (c_X1_netAll hq.1.2.1 hq.1.2.2) gX4_night_X1_netAll rfl dX4_night_28 rfl rfl (by decide +kernel) ⟨Nat.le_of_ble_eq_true rfl, Nat.le_of_ble_eq_true rfl⟩ rfl (Nat.le_of_ble_eq_true rfl) ⟨Nat.le_of_ble_eq_true rfl, Nat.le_of_ble_eq_true rfl⟩ rfl (fun S2 hv28 => ?_)
          have hk := raP_gd hv28 hq.1
          refine m_aload_n hC dX4_night_31 0 rfl ?_
          refine m_callVv (n := 0) hC (c_X4_payFees hk.1.1 hk.1.2.1 hk.1.2.2) gX4_night_X4_payFees rfl dX4_night_32 rfl rfl (by decide +kernel) ⟨Nat.le_of_ble_eq_true rfl, Nat.le_of_ble_eq_true rfl⟩ rfl (Nat.le_of_ble_eq_true rfl) ⟨Nat.le_of_ble_eq_true rfl, Nat.le_of_ble_eq_true rfl⟩ rfl ?_
          refine m_aload_n hC dX4_night_35 0 rfl ?_
          refine m_dup hC dX4_night_36 rfl ?_
          refine m_getI (o := 0) (j := 7) (ji := 7) (CN := RX4) (T := TX4) (N := 9) hC iX4_night_4 fX4_night_49 rfl dX4_night_37 rfl rfl (by decide) rfl rfl ?_
          refine m_iconst (v := 1) hC dX4_night_40 (by decide) ?_
          refine m_iadd hC dX4_night_41 ?_
          refine m_putI (o := 0) (j := 7) (ji := 7) (CN := RX4) (T := TX4) (N := 9) hC iX4_night_4 fX4_night_49 rfl dX4_night_42 rfl rfl (by decide) rfl tyX4 tyX4_ok nmX4 rfl (by decide +kernel) rfl ?_
          refine m_iinc hC dX4_night_45 2 rfl (fun z9 => [(2, .int (z32 z9)), (0, .ref (g.2.2 0)), (1, .int (z32 x))]) (by decide) (fun _ => rfl) (fun v2_45 hv2_45 => ?_)
          refine m_goto (tgt := 9) hC dX4_night_48 (by decide) ?_
          refine m_locals [1, 2, 0] rfl ?_
          exact ih9 (i + 1) v2_45 _ (by omega) (by omega) (by omega) (⟨S1, hN, S2, hv28, rfl⟩)
  refine m_locals [1, 2, 0] rfl ?_
  exact L9 21 0 v2_8 S (by omega) (by omega) (by omega) (rfl)
