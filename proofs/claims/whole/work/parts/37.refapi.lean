/-! ===== the reference: its calls ===== -/
theorem iX5_join_5 : ∀ w ∈ wsX50, w ∈ wsX5_join := by decide +kernel
theorem fX5_join_57 : Cond.fieldLink RX5 57 "MutualledgerModel" "joined" "I" ∈ wsX5_join := by decide +kernel
theorem fX5_join_54 : Cond.fieldLink RX5 54 "MutualledgerModel" "thrown" "I" ∈ wsX5_join := by decide +kernel
theorem fX5_join_7 : Cond.fieldLink RX5 7 "MutualledgerModel" "isIn" "[Z" ∈ wsX5_join := by decide +kernel
set_option maxHeartbeats 4000000 in
set_option maxRecDepth 100000 in
theorem c_X5_join {g : mG} {S : Mem} (hg : RgR S) (l : Launch) : Does l yX5_join wsX5_join ({ frames := 0, cells := 0, slots := 0, locals := 0 } : Room) g [.ref (g.2.2 18)] S (PIx (fun v S' => RP S (cdJoin S) (S 18 1) (stJoin S) v S')) := by
  refine Does.of (cc := cX5_join) (maxL := 1) (ret := (some .int)) (own := RX5) (by decide) rfl rfl (Nat.le_of_ble_eq_true rfl) ?_
  intro C hC hR
  show MW C g 1 (0, 0) 0 [(0, .ref (g.2.2 18))] [] S
  obtain ⟨r1, r2, r3, r4, r5, r6, r7⟩ := id hg
  refine m_aload_n hC dX5_join_0 0 rfl ?_
  refine m_aload_n hC dX5_join_1 0 rfl ?_
  refine m_getI (o := 18) (j := 1) (ji := 1) (CN := RX5) (T := TX5) (N := 19) hC iX5_join_5 fX5_join_57 rfl dX5_join_2 rfl rfl (by decide) rfl rfl ?_
  try simp (decide := true) only [mset_o, mset_hit]
  refine m_bipush (v := 8) hC dX5_join_5 (by decide) ?_
  refine m_icmp_ne (tgt := 14) hC dX5_join_7 (by decide) (by omega) (by omega) (fun c_7 => ?_) (fun c_7 => ?_)
  · refine m_iconst (v := 0) hC dX5_join_14 (by decide) ?_
    have hcd : cdJoin S = 0 := by unfold cdJoin; first | (simp [*]; done) | (exfalso; simp_all; done)
    refine m_putI (o := 18) (j := 0) (ji := 0) (CN := RX5) (T := TX5) (N := 19) hC iX5_join_5 fX5_join_54 rfl dX5_join_15 rfl rfl (by decide) rfl tyX5 tyX5_ok nmX5 rfl (by decide +kernel) rfl ?_
    refine m_aload_n hC dX5_join_18 0 rfl ?_
    refine m_getI (o := 18) (j := 0) (ji := 0) (CN := RX5) (T := TX5) (N := 19) hC iX5_join_5 fX5_join_54 rfl dX5_join_19 rfl rfl (by decide) rfl rfl ?_
    rw [mset_hit]
    refine m_if_le (tgt := 27) hC dX5_join_22 (by decide) (by omega) (fun c_22 => ?_) (fun c_22 => ?_)
    · obtain ⟨S0, hS0, hg0, q1, q7, q14, q15, q16, qo⟩ := thr0 S hg
      rw [← hS0]
      refine m_aload_n hC dX5_join_27 0 rfl ?_
      refine m_getR (o := 18) (j := 2) (a := 19) (CN := RX5) (T := TX5) (N := 19) hC iX5_join_5 fX5_join_7 rfl dX5_join_28 rfl rfl (by decide) rfl ?_
      refine m_aload_n hC dX5_join_31 0 rfl ?_
      refine m_getI (o := 18) (j := 1) (ji := 1) (CN := RX5) (T := TX5) (N := 19) hC iX5_join_5 fX5_join_57 rfl dX5_join_32 rfl rfl (by decide) rfl rfl ?_
      try simp (decide := true) only [mset_o, mset_hit]
      refine m_iconst (v := 1) hC dX5_join_35 (by decide) ?_
      refine m_bastore (o := 19) (n := 8) hC rfl dX5_join_36 (by omega) (by omega) (by decide) (by decide) ?_
      refine m_aload_n hC dX5_join_37 0 rfl ?_
      refine m_dup hC dX5_join_38 rfl ?_
      refine m_getI (o := 18) (j := 1) (ji := 1) (CN := RX5) (T := TX5) (N := 19) hC iX5_join_5 fX5_join_57 rfl dX5_join_39 rfl rfl (by decide) rfl rfl ?_
      try simp (decide := true) only [mset_o, mset_hit]
      refine m_iconst (v := 1) hC dX5_join_42 (by decide) ?_
      refine m_iadd hC dX5_join_43 ?_
      refine m_putI (o := 18) (j := 1) (ji := 1) (CN := RX5) (T := TX5) (N := 19) hC iX5_join_5 fX5_join_57 rfl dX5_join_44 rfl rfl (by decide) rfl tyX5 tyX5_ok nmX5 rfl (by decide +kernel) rfl ?_
      refine m_aload_n hC dX5_join_47 0 rfl ?_
      refine m_getI (o := 18) (j := 1) (ji := 1) (CN := RX5) (T := TX5) (N := 19) hC iX5_join_5 fX5_join_57 rfl dX5_join_48 rfl rfl (by decide) rfl rfl ?_
      try simp (decide := true) only [mset_o, mset_hit]
      refine m_iconst (v := 1) hC dX5_join_51 (by decide) ?_
      refine m_isub hC dX5_join_52 ?_
      refine m_iretx hC hR (Or.inl rfl) dX5_join_53 ⟨Nat.le_of_ble_eq_true rfl, Nat.le_of_ble_eq_true rfl⟩ ?_
      refine RP_ok hcd (by omega) ?_; rw [hS0]; unfold stJoin thr; rfl
    · exfalso; omega
  · refine m_iconst (v := 1) hC dX5_join_10 (by decide) ?_
    refine m_goto (tgt := 15) hC dX5_join_11 (by decide) ?_
    have hcd : cdJoin S = 1 := by unfold cdJoin; first | (simp [*]; done) | (exfalso; simp_all; done)
    refine m_putI (o := 18) (j := 0) (ji := 0) (CN := RX5) (T := TX5) (N := 19) hC iX5_join_5 fX5_join_54 rfl dX5_join_15 rfl rfl (by decide) rfl tyX5 tyX5_ok nmX5 rfl (by decide +kernel) rfl ?_
    refine m_aload_n hC dX5_join_18 0 rfl ?_
    refine m_getI (o := 18) (j := 0) (ji := 0) (CN := RX5) (T := TX5) (N := 19) hC iX5_join_5 fX5_join_54 rfl dX5_join_19 rfl rfl (by decide) rfl rfl ?_
    rw [mset_hit]
    refine m_if_le (tgt := 27) hC dX5_join_22 (by decide) (by omega) (fun c_22 => ?_) (fun c_22 => ?_)
    · exfalso; omega
    · refine m_iconst (v := 0) hC dX5_join_25 (by decide) ?_
      refine m_iretx hC hR (Or.inl rfl) dX5_join_26 ⟨Nat.le_of_ble_eq_true rfl, Nat.le_of_ble_eq_true rfl⟩ ?_
      exact RP_bad hcd (by decide)
theorem iX5_trade_5 : ∀ w ∈ wsX50, w ∈ wsX5_trade := by decide +kernel
theorem fX5_trade_54 : Cond.fieldLink RX5 54 "MutualledgerModel" "thrown" "I" ∈ wsX5_trade := by decide +kernel
theorem fX5_trade_68 : Cond.fieldLink RX5 68 "MutualledgerModel" "trades" "I" ∈ wsX5_trade := by decide +kernel
theorem fX5_trade_26 : Cond.fieldLink RX5 26 "MutualledgerModel" "buyer" "[I" ∈ wsX5_trade := by decide +kernel
theorem fX5_trade_29 : Cond.fieldLink RX5 29 "MutualledgerModel" "seller" "[I" ∈ wsX5_trade := by decide +kernel
theorem fX5_trade_32 : Cond.fieldLink RX5 32 "MutualledgerModel" "amount" "[I" ∈ wsX5_trade := by decide +kernel
theorem fX5_trade_35 : Cond.fieldLink RX5 35 "MutualledgerModel" "day" "[I" ∈ wsX5_trade := by decide +kernel
theorem fX5_trade_75 : Cond.fieldLink RX5 75 "MutualledgerModel" "today" "I" ∈ wsX5_trade := by decide +kernel
theorem fX5_trade_38 : Cond.fieldLink RX5 38 "MutualledgerModel" "state" "[I" ∈ wsX5_trade := by decide +kernel
theorem fX5_trade_13 : Cond.fieldLink RX5 13 "MutualledgerModel" "owes" "[I" ∈ wsX5_trade := by decide +kernel
set_option maxHeartbeats 4000000 in
set_option maxRecDepth 100000 in
theorem c_X5_trade {g : mG} {S : Mem} {b : Int} (hb : -2147483648 ≤ b ∧ b < 2147483648) {s : Int} (hs : -2147483648 ≤ s ∧ s < 2147483648) {a : Int} (ha : -2147483648 ≤ a ∧ a < 2147483648) (hg : RgR S) (hok : OkD (S 20)) (hgu : OkD (S 22)) (hfz : Fz (S 20) (S 21)) (l : Launch) : Does l yX5_trade wsX5_trade ({ frames := 2, cells := 0, slots := 0, locals := 46 } : Room) g [.ref (g.2.2 18), .int (z32 b), .int (z32 s), .int (z32 a)] S (PIx (fun v S' => RP S (cdTrade S b s a) (S 18 7) (stTrade S b s a) v S')) := by
  refine Does.of (cc := cX5_trade) (maxL := 4) (ret := (some .int)) (own := RX5) (by decide) rfl rfl (Nat.le_of_ble_eq_true rfl) ?_
  intro C hC hR
  show MW C g 4 (0, 0) 0 [(0, .ref (g.2.2 18)), (1, .int (z32 b)), (2, .int (z32 s)), (3, .int (z32 a))] [] S
  obtain ⟨r1, r2, r3, r4, r5, r6, r7⟩ := id hg
  refine m_aload_n hC dX5_trade_0 0 rfl ?_
  refine m_aload_n hC dX5_trade_1 0 rfl ?_
  refine m_iload_n hC dX5_trade_2 1 rfl ?_
  refine m_callVi (n := 1) hC (c_X5_isShop hb hg) gX5_trade_X5_isShop rfl dX5_trade_3 rfl rfl (by decide +kernel) ⟨Nat.le_of_ble_eq_true rfl, Nat.le_of_ble_eq_true rfl⟩ rfl (Nat.le_of_ble_eq_true rfl) ⟨Nat.le_of_ble_eq_true rfl, Nat.le_of_ble_eq_true rfl⟩ rfl ?_
  refine m_if_eq (tgt := 17) hC dX5_trade_6 (by decide) (bI_32 _) (fun c_6 => ?_) (fun c_6 => ?_)
  · have b_6 := bI_0 c_6
    refine m_iconst (v := 1) hC dX5_trade_17 (by decide) ?_
    refine m_goto (tgt := 73) hC dX5_trade_18 (by decide) ?_
    have hcd : cdTrade S b s a = 1 := by unfold cdTrade; first | (simp [*]; done) | (exfalso; simp_all; done)
    refine m_putI (o := 18) (j := 0) (ji := 0) (CN := RX5) (T := TX5) (N := 19) hC iX5_trade_5 fX5_trade_54 rfl dX5_trade_73 rfl rfl (by decide) rfl tyX5 tyX5_ok nmX5 rfl (by decide +kernel) rfl ?_
    refine m_aload_n hC dX5_trade_76 0 rfl ?_
    refine m_getI (o := 18) (j := 0) (ji := 0) (CN := RX5) (T := TX5) (N := 19) hC iX5_trade_5 fX5_trade_54 rfl dX5_trade_77 rfl rfl (by decide) rfl rfl ?_
    rw [mset_hit]
    refine m_if_le (tgt := 85) hC dX5_trade_80 (by decide) (by omega) (fun c_80 => ?_) (fun c_80 => ?_)
    · exfalso; omega
    · refine m_iconst (v := 0) hC dX5_trade_83 (by decide) ?_
      refine m_iretx hC hR (Or.inl rfl) dX5_trade_84 ⟨Nat.le_of_ble_eq_true rfl, Nat.le_of_ble_eq_true rfl⟩ ?_
      exact RP_bad hcd (by decide)
  · have b_6 := bI_1 c_6
    have l1 := livR_in b_6 hg
    refine m_aload_n hC dX5_trade_9 0 rfl ?_
    refine m_iload_n hC dX5_trade_10 2 rfl ?_
    refine m_callVi (n := 1) hC (c_X5_isShop hs hg) gX5_trade_X5_isShop rfl dX5_trade_11 rfl rfl (by decide +kernel) ⟨Nat.le_of_ble_eq_true rfl, Nat.le_of_ble_eq_true rfl⟩ rfl (Nat.le_of_ble_eq_true rfl) ⟨Nat.le_of_ble_eq_true rfl, Nat.le_of_ble_eq_true rfl⟩ rfl ?_
    refine m_if_ne (tgt := 21) hC dX5_trade_14 (by decide) (bI_32 _) (fun c_14 => ?_) (fun c_14 => ?_)
    · have b_14 := bI_1 c_14
      have l2 := livR_in b_14 hg
      refine m_iload_n hC dX5_trade_21 3 rfl ?_
      refine m_iconst (v := 1) hC dX5_trade_22 (by decide) ?_
      refine m_sipush (v := 1000) hC dX5_trade_23 (by decide) ?_
      refine m_callSi (n := 3) hC (c_X5_in ha (by omega) (by omega)) gX5_trade_X5_in rfl dX5_trade_26 (by decide +kernel) ⟨Nat.le_of_ble_eq_true rfl, Nat.le_of_ble_eq_true rfl⟩ rfl (Nat.le_of_ble_eq_true rfl) ⟨Nat.le_of_ble_eq_true rfl, Nat.le_of_ble_eq_true rfl⟩ rfl ?_
      refine m_if_eq (tgt := 37) hC dX5_trade_29 (by decide) (bI_32 _) (fun c_29 => ?_) (fun c_29 => ?_)
      · have b_29 := bI_0 c_29
        refine m_iconst (v := 2) hC dX5_trade_37 (by decide) ?_
        refine m_goto (tgt := 73) hC dX5_trade_38 (by decide) ?_
        have hcd : cdTrade S b s a = 2 := by unfold cdTrade; first | (simp [*]; done) | (exfalso; simp_all; done)
        refine m_putI (o := 18) (j := 0) (ji := 0) (CN := RX5) (T := TX5) (N := 19) hC iX5_trade_5 fX5_trade_54 rfl dX5_trade_73 rfl rfl (by decide) rfl tyX5 tyX5_ok nmX5 rfl (by decide +kernel) rfl ?_
        refine m_aload_n hC dX5_trade_76 0 rfl ?_
        refine m_getI (o := 18) (j := 0) (ji := 0) (CN := RX5) (T := TX5) (N := 19) hC iX5_trade_5 fX5_trade_54 rfl dX5_trade_77 rfl rfl (by decide) rfl rfl ?_
        rw [mset_hit]
        refine m_if_le (tgt := 85) hC dX5_trade_80 (by decide) (by omega) (fun c_80 => ?_) (fun c_80 => ?_)
        · exfalso; omega
        · refine m_iconst (v := 0) hC dX5_trade_83 (by decide) ?_
          refine m_iretx hC hR (Or.inl rfl) dX5_trade_84 ⟨Nat.le_of_ble_eq_true rfl, Nat.le_of_ble_eq_true rfl⟩ ?_
          exact RP_bad hcd (by decide)
      · have b_29 := bI_1 c_29
        have a1 := of_decide_eq_true b_29
        refine m_iload_n hC dX5_trade_32 1 rfl ?_
        refine m_iload_n hC dX5_trade_33 2 rfl ?_
        refine m_icmp_ne (tgt := 41) hC dX5_trade_34 (by decide) (by omega) (by omega) (fun c_34 => ?_) (fun c_34 => ?_)
        · refine m_aload_n hC dX5_trade_41 0 rfl ?_
          refine m_getI (o := 18) (j := 7) (ji := 7) (CN := RX5) (T := TX5) (N := 19) hC iX5_trade_5 fX5_trade_68 rfl dX5_trade_42 rfl rfl (by decide) rfl rfl ?_
          try simp (decide := true) only [mset_o, mset_hit]
          refine m_bipush (v := 100) hC dX5_trade_45 (by decide) ?_
          refine m_icmp_eq (tgt := 68) hC dX5_trade_47 (by decide) (by omega) (by omega) (fun c_47 => ?_) (fun c_47 => ?_)
          · refine m_iconst (v := 3) hC dX5_trade_68 (by decide) ?_
            refine m_goto (tgt := 73) hC dX5_trade_69 (by decide) ?_
            have hcd : cdTrade S b s a = 3 := by unfold cdTrade; first | (simp [*]; done) | (exfalso; simp_all; done)
            refine m_putI (o := 18) (j := 0) (ji := 0) (CN := RX5) (T := TX5) (N := 19) hC iX5_trade_5 fX5_trade_54 rfl dX5_trade_73 rfl rfl (by decide) rfl tyX5 tyX5_ok nmX5 rfl (by decide +kernel) rfl ?_
            refine m_aload_n hC dX5_trade_76 0 rfl ?_
            refine m_getI (o := 18) (j := 0) (ji := 0) (CN := RX5) (T := TX5) (N := 19) hC iX5_trade_5 fX5_trade_54 rfl dX5_trade_77 rfl rfl (by decide) rfl rfl ?_
            rw [mset_hit]
            refine m_if_le (tgt := 85) hC dX5_trade_80 (by decide) (by omega) (fun c_80 => ?_) (fun c_80 => ?_)
            · exfalso; omega
            · refine m_iconst (v := 0) hC dX5_trade_83 (by decide) ?_
              refine m_iretx hC hR (Or.inl rfl) dX5_trade_84 ⟨Nat.le_of_ble_eq_true rfl, Nat.le_of_ble_eq_true rfl⟩ ?_
              exact RP_bad hcd (by decide)
          · have hbl := hok.1.bl (x := b) (by omega)
            have hlr := limR_rng hg hgu.1 (s := b) (by omega)
            refine m_aload_n hC dX5_trade_50 0 rfl ?_
            refine m_iload_n hC dX5_trade_51 1 rfl ?_
            refine m_callVi (n := 1) hC (c_X5_balanceOf (by omega)) gX5_trade_X5_balanceOf rfl dX5_trade_52 rfl rfl (by decide +kernel) ⟨Nat.le_of_ble_eq_true rfl, Nat.le_of_ble_eq_true rfl⟩ rfl (Nat.le_of_ble_eq_true rfl) ⟨Nat.le_of_ble_eq_true rfl, Nat.le_of_ble_eq_true rfl⟩ rfl ?_
            refine m_iload_n hC dX5_trade_55 3 rfl ?_
            refine m_isub hC dX5_trade_56 ?_
            refine m_aload_n hC dX5_trade_57 0 rfl ?_
            refine m_iload_n hC dX5_trade_58 1 rfl ?_
            refine m_callVi (n := 1) hC (c_X5_limitOf (by omega) hg) gX5_trade_X5_limitOf rfl dX5_trade_59 rfl rfl (by decide +kernel) ⟨Nat.le_of_ble_eq_true rfl, Nat.le_of_ble_eq_true rfl⟩ rfl (Nat.le_of_ble_eq_true rfl) ⟨Nat.le_of_ble_eq_true rfl, Nat.le_of_ble_eq_true rfl⟩ rfl ?_
            refine m_callSi (n := 2) hC (c_X5_isBelow (by omega)) gX5_trade_X5_isBelow rfl dX5_trade_62 (by decide +kernel) ⟨Nat.le_of_ble_eq_true rfl, Nat.le_of_ble_eq_true rfl⟩ rfl (Nat.le_of_ble_eq_true rfl) ⟨Nat.le_of_ble_eq_true rfl, Nat.le_of_ble_eq_true rfl⟩ rfl ?_
            refine m_if_eq (tgt := 72) hC dX5_trade_65 (by decide) (bI_32 _) (fun c_65 => ?_) (fun c_65 => ?_)
            · have b_65 := bI_0 c_65
              refine m_iconst (v := 0) hC dX5_trade_72 (by decide) ?_
              have hcd : cdTrade S b s a = 0 := by unfold cdTrade; first | (simp [*]; done) | (exfalso; simp_all; done)
              refine m_putI (o := 18) (j := 0) (ji := 0) (CN := RX5) (T := TX5) (N := 19) hC iX5_trade_5 fX5_trade_54 rfl dX5_trade_73 rfl rfl (by decide) rfl tyX5 tyX5_ok nmX5 rfl (by decide +kernel) rfl ?_
              refine m_aload_n hC dX5_trade_76 0 rfl ?_
              refine m_getI (o := 18) (j := 0) (ji := 0) (CN := RX5) (T := TX5) (N := 19) hC iX5_trade_5 fX5_trade_54 rfl dX5_trade_77 rfl rfl (by decide) rfl rfl ?_
              rw [mset_hit]
              refine m_if_le (tgt := 85) hC dX5_trade_80 (by decide) (by omega) (fun c_80 => ?_) (fun c_80 => ?_)
              · obtain ⟨S0, hS0, hg0, q1, q7, q14, q15, q16, qo⟩ := thr0 S hg
                rw [← hS0]
                refine m_aload_n hC dX5_trade_85 0 rfl ?_
                refine m_getR (o := 18) (j := 8) (a := 24) (CN := RX5) (T := TX5) (N := 19) hC iX5_trade_5 fX5_trade_26 rfl dX5_trade_86 rfl rfl (by decide) rfl ?_
                refine m_aload_n hC dX5_trade_89 0 rfl ?_
                refine m_getI (o := 18) (j := 7) (ji := 7) (CN := RX5) (T := TX5) (N := 19) hC iX5_trade_5 fX5_trade_68 rfl dX5_trade_90 rfl rfl (by decide) rfl rfl ?_
                try simp (decide := true) only [mset_o, mset_hit]
                refine m_iload_n hC dX5_trade_93 1 rfl ?_
                refine m_iastore (o := 24) (n := 100) hC rfl dX5_trade_94 (by omega) (by omega) (by decide) ?_
                refine m_aload_n hC dX5_trade_95 0 rfl ?_
                refine m_getR (o := 18) (j := 9) (a := 25) (CN := RX5) (T := TX5) (N := 19) hC iX5_trade_5 fX5_trade_29 rfl dX5_trade_96 rfl rfl (by decide) rfl ?_
                refine m_aload_n hC dX5_trade_99 0 rfl ?_
                refine m_getI (o := 18) (j := 7) (ji := 7) (CN := RX5) (T := TX5) (N := 19) hC iX5_trade_5 fX5_trade_68 rfl dX5_trade_100 rfl rfl (by decide) rfl rfl ?_
                try simp (decide := true) only [mset_o, mset_hit]
                refine m_iload_n hC dX5_trade_103 2 rfl ?_
                refine m_iastore (o := 25) (n := 100) hC rfl dX5_trade_104 (by omega) (by omega) (by decide) ?_
                refine m_aload_n hC dX5_trade_105 0 rfl ?_
                refine m_getR (o := 18) (j := 10) (a := 26) (CN := RX5) (T := TX5) (N := 19) hC iX5_trade_5 fX5_trade_32 rfl dX5_trade_106 rfl rfl (by decide) rfl ?_
                refine m_aload_n hC dX5_trade_109 0 rfl ?_
                refine m_getI (o := 18) (j := 7) (ji := 7) (CN := RX5) (T := TX5) (N := 19) hC iX5_trade_5 fX5_trade_68 rfl dX5_trade_110 rfl rfl (by decide) rfl rfl ?_
                try simp (decide := true) only [mset_o, mset_hit]
                refine m_iload_n hC dX5_trade_113 3 rfl ?_
                refine m_iastore (o := 26) (n := 100) hC rfl dX5_trade_114 (by omega) (by omega) (by decide) ?_
                refine m_aload_n hC dX5_trade_115 0 rfl ?_
                refine m_getR (o := 18) (j := 11) (a := 27) (CN := RX5) (T := TX5) (N := 19) hC iX5_trade_5 fX5_trade_35 rfl dX5_trade_116 rfl rfl (by decide) rfl ?_
                refine m_aload_n hC dX5_trade_119 0 rfl ?_
                refine m_getI (o := 18) (j := 7) (ji := 7) (CN := RX5) (T := TX5) (N := 19) hC iX5_trade_5 fX5_trade_68 rfl dX5_trade_120 rfl rfl (by decide) rfl rfl ?_
                try simp (decide := true) only [mset_o, mset_hit]
                refine m_aload_n hC dX5_trade_123 0 rfl ?_
                refine m_getI (o := 18) (j := 14) (ji := 14) (CN := RX5) (T := TX5) (N := 19) hC iX5_trade_5 fX5_trade_75 rfl dX5_trade_124 rfl rfl (by decide) rfl rfl ?_
                try simp (decide := true) only [mset_o, mset_hit]
                refine m_iastore (o := 27) (n := 100) hC rfl dX5_trade_127 (by omega) (by omega) (by decide) ?_
                refine m_aload_n hC dX5_trade_128 0 rfl ?_
                refine m_getR (o := 18) (j := 12) (a := 28) (CN := RX5) (T := TX5) (N := 19) hC iX5_trade_5 fX5_trade_38 rfl dX5_trade_129 rfl rfl (by decide) rfl ?_
                refine m_aload_n hC dX5_trade_132 0 rfl ?_
                refine m_getI (o := 18) (j := 7) (ji := 7) (CN := RX5) (T := TX5) (N := 19) hC iX5_trade_5 fX5_trade_68 rfl dX5_trade_133 rfl rfl (by decide) rfl rfl ?_
                try simp (decide := true) only [mset_o, mset_hit]
                refine m_iconst (v := 0) hC dX5_trade_136 (by decide) ?_
                refine m_iastore (o := 28) (n := 100) hC rfl dX5_trade_137 (by omega) (by omega) (by decide) ?_
                refine m_aload_n hC dX5_trade_138 0 rfl ?_
                refine m_getR (o := 18) (j := 3) (a := 20) (CN := RX5) (T := TX5) (N := 19) hC iX5_trade_5 fX5_trade_13 rfl dX5_trade_139 rfl rfl (by decide) rfl ?_
                refine m_iload_n hC dX5_trade_142 1 rfl ?_
                refine m_iload_n hC dX5_trade_143 2 rfl ?_
                refine m_callSi (n := 2) hC (c_X5_at) gX5_trade_X5_at rfl dX5_trade_144 (by decide +kernel) ⟨Nat.le_of_ble_eq_true rfl, Nat.le_of_ble_eq_true rfl⟩ rfl (Nat.le_of_ble_eq_true rfl) ⟨Nat.le_of_ble_eq_true rfl, Nat.le_of_ble_eq_true rfl⟩ rfl ?_
                refine m_dup2 hC dX5_trade_147 rfl rfl ?_
                refine m_iaload (o := 20) (n := 81) hC rfl dX5_trade_148 (ix_lo (by omega) (by omega)) (ix_hi (by omega) (by omega)) (by decide) ?_
                refine m_iload_n hC dX5_trade_149 3 rfl ?_
                refine m_iadd hC dX5_trade_150 ?_
                refine m_iastore (o := 20) (n := 81) hC rfl dX5_trade_151 (ix_lo (by omega) (by omega)) (ix_hi (by omega) (by omega)) (by decide) ?_
                refine m_aload_n hC dX5_trade_152 0 rfl ?_
                refine m_dup hC dX5_trade_153 rfl ?_
                refine m_getI (o := 18) (j := 7) (ji := 7) (CN := RX5) (T := TX5) (N := 19) hC iX5_trade_5 fX5_trade_68 rfl dX5_trade_154 rfl rfl (by decide) rfl rfl ?_
                try simp (decide := true) only [mset_o, mset_hit]
                refine m_iconst (v := 1) hC dX5_trade_157 (by decide) ?_
                refine m_iadd hC dX5_trade_158 ?_
                refine m_putI (o := 18) (j := 7) (ji := 7) (CN := RX5) (T := TX5) (N := 19) hC iX5_trade_5 fX5_trade_68 rfl dX5_trade_159 rfl rfl (by decide) rfl tyX5 tyX5_ok nmX5 rfl (by decide +kernel) rfl ?_
                refine m_aload_n hC dX5_trade_162 0 rfl ?_
                refine m_getI (o := 18) (j := 7) (ji := 7) (CN := RX5) (T := TX5) (N := 19) hC iX5_trade_5 fX5_trade_68 rfl dX5_trade_163 rfl rfl (by decide) rfl rfl ?_
                try simp (decide := true) only [mset_o, mset_hit]
                refine m_iconst (v := 1) hC dX5_trade_166 (by decide) ?_
                refine m_isub hC dX5_trade_167 ?_
                refine m_iretx hC hR (Or.inl rfl) dX5_trade_168 ⟨Nat.le_of_ble_eq_true rfl, Nat.le_of_ble_eq_true rfl⟩ ?_
                refine RP_ok hcd (by omega) ?_; rw [hS0]; unfold stTrade thr; simp (decide := true) only [mset_o, mset_i, mset_hit]
              · exfalso; omega
            · have b_65 := bI_1 c_65
              refine m_iconst (v := 3) hC dX5_trade_68 (by decide) ?_
              refine m_goto (tgt := 73) hC dX5_trade_69 (by decide) ?_
              have hcd : cdTrade S b s a = 3 := by unfold cdTrade; first | (simp [*]; done) | (exfalso; simp_all; done)
              refine m_putI (o := 18) (j := 0) (ji := 0) (CN := RX5) (T := TX5) (N := 19) hC iX5_trade_5 fX5_trade_54 rfl dX5_trade_73 rfl rfl (by decide) rfl tyX5 tyX5_ok nmX5 rfl (by decide +kernel) rfl ?_
              refine m_aload_n hC dX5_trade_76 0 rfl ?_
              refine m_getI (o := 18) (j := 0) (ji := 0) (CN := RX5) (T := TX5) (N := 19) hC iX5_trade_5 fX5_trade_54 rfl dX5_trade_77 rfl rfl (by decide) rfl rfl ?_
              rw [mset_hit]
              refine m_if_le (tgt := 85) hC dX5_trade_80 (by decide) (by omega) (fun c_80 => ?_) (fun c_80 => ?_)
              · exfalso; omega
              · refine m_iconst (v := 0) hC dX5_trade_83 (by decide) ?_
                refine m_iretx hC hR (Or.inl rfl) dX5_trade_84 ⟨Nat.le_of_ble_eq_true rfl, Nat.le_of_ble_eq_true rfl⟩ ?_
                exact RP_bad hcd (by decide)
        · refine m_iconst (v := 2) hC dX5_trade_37 (by decide) ?_
          refine m_goto (tgt := 73) hC dX5_trade_38 (by decide) ?_
          have hcd : cdTrade S b s a = 2 := by unfold cdTrade; first | (simp [*]; done) | (exfalso; simp_all; done)
          refine m_putI (o := 18) (j := 0) (ji := 0) (CN := RX5) (T := TX5) (N := 19) hC iX5_trade_5 fX5_trade_54 rfl dX5_trade_73 rfl rfl (by decide) rfl tyX5 tyX5_ok nmX5 rfl (by decide +kernel) rfl ?_
          refine m_aload_n hC dX5_trade_76 0 rfl ?_
          refine m_getI (o := 18) (j := 0) (ji := 0) (CN := RX5) (T := TX5) (N := 19) hC iX5_trade_5 fX5_trade_54 rfl dX5_trade_77 rfl rfl (by decide) rfl rfl ?_
          rw [mset_hit]
          refine m_if_le (tgt := 85) hC dX5_trade_80 (by decide) (by omega) (fun c_80 => ?_) (fun c_80 => ?_)
          · exfalso; omega
          · refine m_iconst (v := 0) hC dX5_trade_83 (by decide) ?_
            refine m_iretx hC hR (Or.inl rfl) dX5_trade_84 ⟨Nat.le_of_ble_eq_true rfl, Nat.le_of_ble_eq_true rfl⟩ ?_
            exact RP_bad hcd (by decide)
    · have b_14 := bI_0 (Decidable.of_not_not c_14)
      refine m_iconst (v := 1) hC dX5_trade_17 (by decide) ?_
      refine m_goto (tgt := 73) hC dX5_trade_18 (by decide) ?_
      have hcd : cdTrade S b s a = 1 := by unfold cdTrade; first | (simp [*]; done) | (exfalso; simp_all; done)
      refine m_putI (o := 18) (j := 0) (ji := 0) (CN := RX5) (T := TX5) (N := 19) hC iX5_trade_5 fX5_trade_54 rfl dX5_trade_73 rfl rfl (by decide) rfl tyX5 tyX5_ok nmX5 rfl (by decide +kernel) rfl ?_
      refine m_aload_n hC dX5_trade_76 0 rfl ?_
      refine m_getI (o := 18) (j := 0) (ji := 0) (CN := RX5) (T := TX5) (N := 19) hC iX5_trade_5 fX5_trade_54 rfl dX5_trade_77 rfl rfl (by decide) rfl rfl ?_
      rw [mset_hit]
      refine m_if_le (tgt := 85) hC dX5_trade_80 (by decide) (by omega) (fun c_80 => ?_) (fun c_80 => ?_)
      · exfalso; omega
      · refine m_iconst (v := 0) hC dX5_trade_83 (by decide) ?_
        refine m_iretx hC hR (Or.inl rfl) dX5_trade_84 ⟨Nat.le_of_ble_eq_true rfl, Nat.le_of_ble_eq_true rfl⟩ ?_
        exact RP_bad hcd (by decide)
theorem iX5_dispute_5 : ∀ w ∈ wsX50, w ∈ wsX5_dispute := by decide +kernel
theorem fX5_dispute_54 : Cond.fieldLink RX5 54 "MutualledgerModel" "thrown" "I" ∈ wsX5_dispute := by decide +kernel
theorem fX5_dispute_38 : Cond.fieldLink RX5 38 "MutualledgerModel" "state" "[I" ∈ wsX5_dispute := by decide +kernel
theorem fX5_dispute_7 : Cond.fieldLink RX5 7 "MutualledgerModel" "isIn" "[Z" ∈ wsX5_dispute := by decide +kernel
theorem fX5_dispute_26 : Cond.fieldLink RX5 26 "MutualledgerModel" "buyer" "[I" ∈ wsX5_dispute := by decide +kernel
theorem fX5_dispute_29 : Cond.fieldLink RX5 29 "MutualledgerModel" "seller" "[I" ∈ wsX5_dispute := by decide +kernel
theorem fX5_dispute_41 : Cond.fieldLink RX5 41 "MutualledgerModel" "part" "[I" ∈ wsX5_dispute := by decide +kernel
theorem fX5_dispute_32 : Cond.fieldLink RX5 32 "MutualledgerModel" "amount" "[I" ∈ wsX5_dispute := by decide +kernel
theorem fX5_dispute_13 : Cond.fieldLink RX5 13 "MutualledgerModel" "owes" "[I" ∈ wsX5_dispute := by decide +kernel
theorem fX5_dispute_17 : Cond.fieldLink RX5 17 "MutualledgerModel" "frozen" "[I" ∈ wsX5_dispute := by decide +kernel
set_option maxHeartbeats 4000000 in
set_option maxRecDepth 100000 in
theorem c_X5_dispute {g : mG} {S : Mem} {t : Int} (ht : -2147483648 ≤ t ∧ t < 2147483648) (hg : RgR S) (hok : OkD (S 20)) (hgu : OkD (S 22)) (hfz : Fz (S 20) (S 21)) (l : Launch) : Does l yX5_dispute wsX5_dispute ({ frames := 2, cells := 0, slots := 0, locals := 43 } : Room) g [.ref (g.2.2 18), .int (z32 t)] S (PIx (fun v S' => RP S (cdDisp S t) (ptD S t) (stDisp S t) v S')) := by
  refine Does.of (cc := cX5_dispute) (maxL := 4) (ret := (some .int)) (own := RX5) (by decide) rfl rfl (Nat.le_of_ble_eq_true rfl) ?_
  intro C hC hR
  show MW C g 4 (0, 0) 0 [(0, .ref (g.2.2 18)), (1, .int (z32 t))] [] S
  obtain ⟨r1, r2, r3, r4, r5, r6, r7⟩ := id hg
  have q := r7 t
  refine m_aload_n hC dX5_dispute_0 0 rfl ?_
  refine m_iload_n hC dX5_dispute_1 1 rfl ?_
  refine m_callVi (n := 1) hC (c_X5_isTrade ht hg) gX5_dispute_X5_isTrade rfl dX5_dispute_2 rfl rfl (by decide +kernel) ⟨Nat.le_of_ble_eq_true rfl, Nat.le_of_ble_eq_true rfl⟩ rfl (Nat.le_of_ble_eq_true rfl) ⟨Nat.le_of_ble_eq_true rfl, Nat.le_of_ble_eq_true rfl⟩ rfl ?_
  refine m_if_eq (tgt := 49) hC dX5_dispute_5 (by decide) (bI_32 _) (fun c_5 => ?_) (fun c_5 => ?_)
  · have b_5 := bI_0 c_5
    refine m_iconst (v := 0) hC dX5_dispute_49 (by decide) ?_
    refine m_istore_n hC dX5_dispute_50 (fun z9 => [(2, .int (z32 z9)), (0, .ref (g.2.2 18)), (1, .int (z32 t))]) (by decide) (fun _ => rfl) (fun v2_50 hv2_50 => ?_)
    refine m_aload_n hC dX5_dispute_51 1 rfl ?_
    refine m_aload_n hC dX5_dispute_52 1 rfl ?_
    refine m_iload_n hC dX5_dispute_53 2 rfl ?_
    refine m_callVi (n := 1) hC (c_X5_isTrade ht hg) gX5_dispute_X5_isTrade rfl dX5_dispute_54 rfl rfl (by decide +kernel) ⟨Nat.le_of_ble_eq_true rfl, Nat.le_of_ble_eq_true rfl⟩ rfl (Nat.le_of_ble_eq_true rfl) ⟨Nat.le_of_ble_eq_true rfl, Nat.le_of_ble_eq_true rfl⟩ rfl ?_
    refine m_if_ne (tgt := 64) hC dX5_dispute_57 (by decide) (bI_32 _) (fun c_57 => ?_) (fun c_57 => ?_)
    · have b_57 := bI_1 c_57
      refine m_iload_n hC dX5_dispute_64 0 rfl ?_
      refine m_if_eq (tgt := 72) hC dX5_dispute_65 (by decide) (by omega) (fun c_65 => ?_) (fun c_65 => ?_)
      · refine m_iconst (v := 2) hC dX5_dispute_72 (by decide) ?_
        have hcd : cdDisp S t = 2 := by unfold cdDisp; first | (simp [*]; done) | (exfalso; simp_all; done)
        refine m_putI (o := 18) (j := 0) (ji := 0) (CN := RX5) (T := TX5) (N := 19) hC iX5_dispute_5 fX5_dispute_54 rfl dX5_dispute_73 rfl rfl (by decide) rfl tyX5 tyX5_ok nmX5 rfl (by decide +kernel) rfl ?_
        refine m_aload_n hC dX5_dispute_76 1 rfl ?_
        refine m_getI (o := 18) (j := 0) (ji := 0) (CN := RX5) (T := TX5) (N := 19) hC iX5_dispute_5 fX5_dispute_54 rfl dX5_dispute_77 rfl rfl (by decide) rfl rfl ?_
        rw [mset_hit]
        refine m_if_le (tgt := 85) hC dX5_dispute_80 (by decide) (by omega) (fun c_80 => ?_) (fun c_80 => ?_)
        · exfalso; omega
        · refine m_iconst (v := 0) hC dX5_dispute_83 (by decide) ?_
          refine m_iretx hC hR (Or.inl rfl) dX5_dispute_84 ⟨Nat.le_of_ble_eq_true rfl, Nat.le_of_ble_eq_true rfl⟩ ?_
          exact RP_bad hcd (by decide)
      · exfalso; omega
    · have b_57 := bI_0 (Decidable.of_not_not c_57)
      refine m_iconst (v := 1) hC dX5_dispute_60 (by decide) ?_
      refine m_goto (tgt := 73) hC dX5_dispute_61 (by decide) ?_
      have hcd : cdDisp S t = 1 := by unfold cdDisp; first | (simp [*]; done) | (exfalso; simp_all; done)
      refine m_putI (o := 18) (j := 0) (ji := 0) (CN := RX5) (T := TX5) (N := 19) hC iX5_dispute_5 fX5_dispute_54 rfl dX5_dispute_73 rfl rfl (by decide) rfl tyX5 tyX5_ok nmX5 rfl (by decide +kernel) rfl ?_
      refine m_aload_n hC dX5_dispute_76 1 rfl ?_
      refine m_getI (o := 18) (j := 0) (ji := 0) (CN := RX5) (T := TX5) (N := 19) hC iX5_dispute_5 fX5_dispute_54 rfl dX5_dispute_77 rfl rfl (by decide) rfl rfl ?_
      rw [mset_hit]
      refine m_if_le (tgt := 85) hC dX5_dispute_80 (by decide) (by omega) (fun c_80 => ?_) (fun c_80 => ?_)
      · exfalso; omega
      · refine m_iconst (v := 0) hC dX5_dispute_83 (by decide) ?_
        refine m_iretx hC hR (Or.inl rfl) dX5_dispute_84 ⟨Nat.le_of_ble_eq_true rfl, Nat.le_of_ble_eq_true rfl⟩ ?_
        exact RP_bad hcd (by decide)
  · have b_5 := bI_1 c_5
    have l1 := trR_in b_5 hg
    have q24 := r6 (S 24 t)
    have q25 := r6 (S 25 t)
    refine m_aload_n hC dX5_dispute_8 0 rfl ?_
    refine m_getR (o := 18) (j := 12) (a := 28) (CN := RX5) (T := TX5) (N := 19) hC iX5_dispute_5 fX5_dispute_38 rfl dX5_dispute_9 rfl rfl (by decide) rfl ?_
    refine m_iload_n hC dX5_dispute_12 1 rfl ?_
    refine m_iaload (o := 28) (n := 100) hC rfl dX5_dispute_13 (by omega) (by omega) (by decide) ?_
    refine m_if_ne (tgt := 49) hC dX5_dispute_14 (by decide) (by omega) (fun c_14 => ?_) (fun c_14 => ?_)
    · refine m_iconst (v := 0) hC dX5_dispute_49 (by decide) ?_
      refine m_istore_n hC dX5_dispute_50 (fun z9 => [(2, .int (z32 z9)), (0, .ref (g.2.2 18)), (1, .int (z32 t))]) (by decide) (fun _ => rfl) (fun v2_50 hv2_50 => ?_)
      refine m_aload_n hC dX5_dispute_51 1 rfl ?_
      refine m_aload_n hC dX5_dispute_52 1 rfl ?_
      refine m_iload_n hC dX5_dispute_53 2 rfl ?_
      refine m_callVi (n := 1) hC (c_X5_isTrade ht hg) gX5_dispute_X5_isTrade rfl dX5_dispute_54 rfl rfl (by decide +kernel) ⟨Nat.le_of_ble_eq_true rfl, Nat.le_of_ble_eq_true rfl⟩ rfl (Nat.le_of_ble_eq_true rfl) ⟨Nat.le_of_ble_eq_true rfl, Nat.le_of_ble_eq_true rfl⟩ rfl ?_
      refine m_if_ne (tgt := 64) hC dX5_dispute_57 (by decide) (bI_32 _) (fun c_57 => ?_) (fun c_57 => ?_)
      · have b_57 := bI_1 c_57
        refine m_iload_n hC dX5_dispute_64 0 rfl ?_
        refine m_if_eq (tgt := 72) hC dX5_dispute_65 (by decide) (by omega) (fun c_65 => ?_) (fun c_65 => ?_)
        · refine m_iconst (v := 2) hC dX5_dispute_72 (by decide) ?_
          have hcd : cdDisp S t = 2 := by unfold cdDisp; first | (simp [*]; done) | (exfalso; simp_all; done)
          refine m_putI (o := 18) (j := 0) (ji := 0) (CN := RX5) (T := TX5) (N := 19) hC iX5_dispute_5 fX5_dispute_54 rfl dX5_dispute_73 rfl rfl (by decide) rfl tyX5 tyX5_ok nmX5 rfl (by decide +kernel) rfl ?_
          refine m_aload_n hC dX5_dispute_76 1 rfl ?_
          refine m_getI (o := 18) (j := 0) (ji := 0) (CN := RX5) (T := TX5) (N := 19) hC iX5_dispute_5 fX5_dispute_54 rfl dX5_dispute_77 rfl rfl (by decide) rfl rfl ?_
          rw [mset_hit]
          refine m_if_le (tgt := 85) hC dX5_dispute_80 (by decide) (by omega) (fun c_80 => ?_) (fun c_80 => ?_)
          · exfalso; omega
          · refine m_iconst (v := 0) hC dX5_dispute_83 (by decide) ?_
            refine m_iretx hC hR (Or.inl rfl) dX5_dispute_84 ⟨Nat.le_of_ble_eq_true rfl, Nat.le_of_ble_eq_true rfl⟩ ?_
            exact RP_bad hcd (by decide)
        · exfalso; omega
      · have b_57 := bI_0 (Decidable.of_not_not c_57)
        refine m_iconst (v := 1) hC dX5_dispute_60 (by decide) ?_
        refine m_goto (tgt := 73) hC dX5_dispute_61 (by decide) ?_
        have hcd : cdDisp S t = 1 := by unfold cdDisp; first | (simp [*]; done) | (exfalso; simp_all; done)
        refine m_putI (o := 18) (j := 0) (ji := 0) (CN := RX5) (T := TX5) (N := 19) hC iX5_dispute_5 fX5_dispute_54 rfl dX5_dispute_73 rfl rfl (by decide) rfl tyX5 tyX5_ok nmX5 rfl (by decide +kernel) rfl ?_
        refine m_aload_n hC dX5_dispute_76 1 rfl ?_
        refine m_getI (o := 18) (j := 0) (ji := 0) (CN := RX5) (T := TX5) (N := 19) hC iX5_dispute_5 fX5_dispute_54 rfl dX5_dispute_77 rfl rfl (by decide) rfl rfl ?_
        rw [mset_hit]
        refine m_if_le (tgt := 85) hC dX5_dispute_80 (by decide) (by omega) (fun c_80 => ?_) (fun c_80 => ?_)
        · exfalso; omega
        · refine m_iconst (v := 0) hC dX5_dispute_83 (by decide) ?_
          refine m_iretx hC hR (Or.inl rfl) dX5_dispute_84 ⟨Nat.le_of_ble_eq_true rfl, Nat.le_of_ble_eq_true rfl⟩ ?_
          exact RP_bad hcd (by decide)
    · refine m_aload_n hC dX5_dispute_17 0 rfl ?_
      refine m_getR (o := 18) (j := 2) (a := 19) (CN := RX5) (T := TX5) (N := 19) hC iX5_dispute_5 fX5_dispute_7 rfl dX5_dispute_18 rfl rfl (by decide) rfl ?_
      refine m_aload_n hC dX5_dispute_21 0 rfl ?_
      refine m_getR (o := 18) (j := 8) (a := 24) (CN := RX5) (T := TX5) (N := 19) hC iX5_dispute_5 fX5_dispute_26 rfl dX5_dispute_22 rfl rfl (by decide) rfl ?_
      refine m_iload_n hC dX5_dispute_25 1 rfl ?_
      refine m_iaload (o := 24) (n := 100) hC rfl dX5_dispute_26 (by omega) (by omega) (by decide) ?_
      refine m_baload (o := 19) (n := 8) hC rfl dX5_dispute_27 (by omega) (by omega) (by decide) ?_
      refine m_if_eq (tgt := 49) hC dX5_dispute_28 (by decide) (by omega) (fun c_28 => ?_) (fun c_28 => ?_)
      · refine m_iconst (v := 0) hC dX5_dispute_49 (by decide) ?_
        refine m_istore_n hC dX5_dispute_50 (fun z9 => [(2, .int (z32 z9)), (0, .ref (g.2.2 18)), (1, .int (z32 t))]) (by decide) (fun _ => rfl) (fun v2_50 hv2_50 => ?_)
        refine m_aload_n hC dX5_dispute_51 1 rfl ?_
        refine m_aload_n hC dX5_dispute_52 1 rfl ?_
        refine m_iload_n hC dX5_dispute_53 2 rfl ?_
        refine m_callVi (n := 1) hC (c_X5_isTrade ht hg) gX5_dispute_X5_isTrade rfl dX5_dispute_54 rfl rfl (by decide +kernel) ⟨Nat.le_of_ble_eq_true rfl, Nat.le_of_ble_eq_true rfl⟩ rfl (Nat.le_of_ble_eq_true rfl) ⟨Nat.le_of_ble_eq_true rfl, Nat.le_of_ble_eq_true rfl⟩ rfl ?_
        refine m_if_ne (tgt := 64) hC dX5_dispute_57 (by decide) (bI_32 _) (fun c_57 => ?_) (fun c_57 => ?_)
        · have b_57 := bI_1 c_57
          refine m_iload_n hC dX5_dispute_64 0 rfl ?_
          refine m_if_eq (tgt := 72) hC dX5_dispute_65 (by decide) (by omega) (fun c_65 => ?_) (fun c_65 => ?_)
          · refine m_iconst (v := 2) hC dX5_dispute_72 (by decide) ?_
            have hcd : cdDisp S t = 2 := by unfold cdDisp; first | (simp [*]; done) | (exfalso; simp_all; done)
            refine m_putI (o := 18) (j := 0) (ji := 0) (CN := RX5) (T := TX5) (N := 19) hC iX5_dispute_5 fX5_dispute_54 rfl dX5_dispute_73 rfl rfl (by decide) rfl tyX5 tyX5_ok nmX5 rfl (by decide +kernel) rfl ?_
            refine m_aload_n hC dX5_dispute_76 1 rfl ?_
            refine m_getI (o := 18) (j := 0) (ji := 0) (CN := RX5) (T := TX5) (N := 19) hC iX5_dispute_5 fX5_dispute_54 rfl dX5_dispute_77 rfl rfl (by decide) rfl rfl ?_
            rw [mset_hit]
            refine m_if_le (tgt := 85) hC dX5_dispute_80 (by decide) (by omega) (fun c_80 => ?_) (fun c_80 => ?_)
            · exfalso; omega
            · refine m_iconst (v := 0) hC dX5_dispute_83 (by decide) ?_
              refine m_iretx hC hR (Or.inl rfl) dX5_dispute_84 ⟨Nat.le_of_ble_eq_true rfl, Nat.le_of_ble_eq_true rfl⟩ ?_
              exact RP_bad hcd (by decide)
          · exfalso; omega
        · have b_57 := bI_0 (Decidable.of_not_not c_57)
          refine m_iconst (v := 1) hC dX5_dispute_60 (by decide) ?_
          refine m_goto (tgt := 73) hC dX5_dispute_61 (by decide) ?_
          have hcd : cdDisp S t = 1 := by unfold cdDisp; first | (simp [*]; done) | (exfalso; simp_all; done)
          refine m_putI (o := 18) (j := 0) (ji := 0) (CN := RX5) (T := TX5) (N := 19) hC iX5_dispute_5 fX5_dispute_54 rfl dX5_dispute_73 rfl rfl (by decide) rfl tyX5 tyX5_ok nmX5 rfl (by decide +kernel) rfl ?_
          refine m_aload_n hC dX5_dispute_76 1 rfl ?_
          refine m_getI (o := 18) (j := 0) (ji := 0) (CN := RX5) (T := TX5) (N := 19) hC iX5_dispute_5 fX5_dispute_54 rfl dX5_dispute_77 rfl rfl (by decide) rfl rfl ?_
          rw [mset_hit]
          refine m_if_le (tgt := 85) hC dX5_dispute_80 (by decide) (by omega) (fun c_80 => ?_) (fun c_80 => ?_)
          · exfalso; omega
          · refine m_iconst (v := 0) hC dX5_dispute_83 (by decide) ?_
            refine m_iretx hC hR (Or.inl rfl) dX5_dispute_84 ⟨Nat.le_of_ble_eq_true rfl, Nat.le_of_ble_eq_true rfl⟩ ?_
            exact RP_bad hcd (by decide)
      · refine m_aload_n hC dX5_dispute_31 0 rfl ?_
        refine m_getR (o := 18) (j := 2) (a := 19) (CN := RX5) (T := TX5) (N := 19) hC iX5_dispute_5 fX5_dispute_7 rfl dX5_dispute_32 rfl rfl (by decide) rfl ?_
        refine m_aload_n hC dX5_dispute_35 0 rfl ?_
        refine m_getR (o := 18) (j := 9) (a := 25) (CN := RX5) (T := TX5) (N := 19) hC iX5_dispute_5 fX5_dispute_29 rfl dX5_dispute_36 rfl rfl (by decide) rfl ?_
        refine m_iload_n hC dX5_dispute_39 1 rfl ?_
        refine m_iaload (o := 25) (n := 100) hC rfl dX5_dispute_40 (by omega) (by omega) (by decide) ?_
        refine m_baload (o := 19) (n := 8) hC rfl dX5_dispute_41 (by omega) (by omega) (by decide) ?_
        refine m_if_eq (tgt := 49) hC dX5_dispute_42 (by decide) (by omega) (fun c_42 => ?_) (fun c_42 => ?_)
        · refine m_iconst (v := 0) hC dX5_dispute_49 (by decide) ?_
          refine m_istore_n hC dX5_dispute_50 (fun z9 => [(2, .int (z32 z9)), (0, .ref (g.2.2 18)), (1, .int (z32 t))]) (by decide) (fun _ => rfl) (fun v2_50 hv2_50 => ?_)
          refine m_aload_n hC dX5_dispute_51 1 rfl ?_
          refine m_aload_n hC dX5_dispute_52 1 rfl ?_
          refine m_iload_n hC dX5_dispute_53 2 rfl ?_
          refine m_callVi (n := 1) hC (c_X5_isTrade ht hg) gX5_dispute_X5_isTrade rfl dX5_dispute_54 rfl rfl (by decide +kernel) ⟨Nat.le_of_ble_eq_true rfl, Nat.le_of_ble_eq_true rfl⟩ rfl (Nat.le_of_ble_eq_true rfl) ⟨Nat.le_of_ble_eq_true rfl, Nat.le_of_ble_eq_true rfl⟩ rfl ?_
          refine m_if_ne (tgt := 64) hC dX5_dispute_57 (by decide) (bI_32 _) (fun c_57 => ?_) (fun c_57 => ?_)
          · have b_57 := bI_1 c_57
            refine m_iload_n hC dX5_dispute_64 0 rfl ?_
            refine m_if_eq (tgt := 72) hC dX5_dispute_65 (by decide) (by omega) (fun c_65 => ?_) (fun c_65 => ?_)
            · refine m_iconst (v := 2) hC dX5_dispute_72 (by decide) ?_
              have hcd : cdDisp S t = 2 := by unfold cdDisp; first | (simp [*]; done) | (exfalso; simp_all; done)
              refine m_putI (o := 18) (j := 0) (ji := 0) (CN := RX5) (T := TX5) (N := 19) hC iX5_dispute_5 fX5_dispute_54 rfl dX5_dispute_73 rfl rfl (by decide) rfl tyX5 tyX5_ok nmX5 rfl (by decide +kernel) rfl ?_
              refine m_aload_n hC dX5_dispute_76 1 rfl ?_
              refine m_getI (o := 18) (j := 0) (ji := 0) (CN := RX5) (T := TX5) (N := 19) hC iX5_dispute_5 fX5_dispute_54 rfl dX5_dispute_77 rfl rfl (by decide) rfl rfl ?_
              rw [mset_hit]
              refine m_if_le (tgt := 85) hC dX5_dispute_80 (by decide) (by omega) (fun c_80 => ?_) (fun c_80 => ?_)
              · exfalso; omega
              · refine m_iconst (v := 0) hC dX5_dispute_83 (by decide) ?_
                refine m_iretx hC hR (Or.inl rfl) dX5_dispute_84 ⟨Nat.le_of_ble_eq_true rfl, Nat.le_of_ble_eq_true rfl⟩ ?_
                exact RP_bad hcd (by decide)
            · exfalso; omega
          · have b_57 := bI_0 (Decidable.of_not_not c_57)
            refine m_iconst (v := 1) hC dX5_dispute_60 (by decide) ?_
            refine m_goto (tgt := 73) hC dX5_dispute_61 (by decide) ?_
            have hcd : cdDisp S t = 1 := by unfold cdDisp; first | (simp [*]; done) | (exfalso; simp_all; done)
            refine m_putI (o := 18) (j := 0) (ji := 0) (CN := RX5) (T := TX5) (N := 19) hC iX5_dispute_5 fX5_dispute_54 rfl dX5_dispute_73 rfl rfl (by decide) rfl tyX5 tyX5_ok nmX5 rfl (by decide +kernel) rfl ?_
            refine m_aload_n hC dX5_dispute_76 1 rfl ?_
            refine m_getI (o := 18) (j := 0) (ji := 0) (CN := RX5) (T := TX5) (N := 19) hC iX5_dispute_5 fX5_dispute_54 rfl dX5_dispute_77 rfl rfl (by decide) rfl rfl ?_
            rw [mset_hit]
            refine m_if_le (tgt := 85) hC dX5_dispute_80 (by decide) (by omega) (fun c_80 => ?_) (fun c_80 => ?_)
            · exfalso; omega
            · refine m_iconst (v := 0) hC dX5_dispute_83 (by decide) ?_
              refine m_iretx hC hR (Or.inl rfl) dX5_dispute_84 ⟨Nat.le_of_ble_eq_true rfl, Nat.le_of_ble_eq_true rfl⟩ ?_
              exact RP_bad hcd (by decide)
        · refine m_iconst (v := 1) hC dX5_dispute_45 (by decide) ?_
          refine m_goto (tgt := 50) hC dX5_dispute_46 (by decide) ?_
          refine m_istore_n hC dX5_dispute_50 (fun z9 => [(2, .int (z32 z9)), (0, .ref (g.2.2 18)), (1, .int (z32 t))]) (by decide) (fun _ => rfl) (fun v2_50 hv2_50 => ?_)
          refine m_aload_n hC dX5_dispute_51 1 rfl ?_
          refine m_aload_n hC dX5_dispute_52 1 rfl ?_
          refine m_iload_n hC dX5_dispute_53 2 rfl ?_
          refine m_callVi (n := 1) hC (c_X5_isTrade ht hg) gX5_dispute_X5_isTrade rfl dX5_dispute_54 rfl rfl (by decide +kernel) ⟨Nat.le_of_ble_eq_true rfl, Nat.le_of_ble_eq_true rfl⟩ rfl (Nat.le_of_ble_eq_true rfl) ⟨Nat.le_of_ble_eq_true rfl, Nat.le_of_ble_eq_true rfl⟩ rfl ?_
          refine m_if_ne (tgt := 64) hC dX5_dispute_57 (by decide) (bI_32 _) (fun c_57 => ?_) (fun c_57 => ?_)
          · have b_57 := bI_1 c_57
            refine m_iload_n hC dX5_dispute_64 0 rfl ?_
            refine m_if_eq (tgt := 72) hC dX5_dispute_65 (by decide) (by omega) (fun c_65 => ?_) (fun c_65 => ?_)
            · exfalso; omega
            · refine m_iconst (v := 0) hC dX5_dispute_68 (by decide) ?_
              refine m_goto (tgt := 73) hC dX5_dispute_69 (by decide) ?_
              have hcd : cdDisp S t = 0 := by unfold cdDisp; first | (simp [*]; done) | (exfalso; simp_all; done)
              refine m_putI (o := 18) (j := 0) (ji := 0) (CN := RX5) (T := TX5) (N := 19) hC iX5_dispute_5 fX5_dispute_54 rfl dX5_dispute_73 rfl rfl (by decide) rfl tyX5 tyX5_ok nmX5 rfl (by decide +kernel) rfl ?_
              refine m_aload_n hC dX5_dispute_76 1 rfl ?_
              refine m_getI (o := 18) (j := 0) (ji := 0) (CN := RX5) (T := TX5) (N := 19) hC iX5_dispute_5 fX5_dispute_54 rfl dX5_dispute_77 rfl rfl (by decide) rfl rfl ?_
              rw [mset_hit]
              refine m_if_le (tgt := 85) hC dX5_dispute_80 (by decide) (by omega) (fun c_80 => ?_) (fun c_80 => ?_)
              · obtain ⟨S0, hS0, hg0, q1, q7, q14, q15, q16, qo⟩ := thr0 S hg
                rw [← hS0]
                have q20 := qo 20 (by decide)
                have q21 := qo 21 (by decide)
                have q24 := qo 24 (by decide)
                have q25 := qo 25 (by decide)
                have q26 := qo 26 (by decide)
                have l1 := trR_in b_57 hg
                have p1 := hg0.2.2.2.2.2.2 t
                have e1 := hok.1.ent (i := S 24 t) (j := S 25 t) (by omega) (by omega)
                have e2 := hfz (S 24 t) (S 25 t) (by omega) (by omega) (by omega) (by omega)
                have k0 := ix_lo (i := S 24 t) (j := S 25 t) (by omega) (by omega)
                have k1 := ix_hi (i := S 24 t) (j := S 25 t) (by omega) (by omega)
                refine m_aload_n hC dX5_dispute_85 1 rfl ?_
                refine m_getR (o := 18) (j := 8) (a := 24) (CN := RX5) (T := TX5) (N := 19) hC iX5_dispute_5 fX5_dispute_26 rfl dX5_dispute_86 rfl rfl (by decide) rfl ?_
                refine m_iload_n hC dX5_dispute_89 2 rfl ?_
                refine m_iaload (o := 24) (n := 100) hC rfl dX5_dispute_90 (by omega) (by omega) (by decide) ?_
                refine m_aload_n hC dX5_dispute_91 1 rfl ?_
                refine m_getR (o := 18) (j := 9) (a := 25) (CN := RX5) (T := TX5) (N := 19) hC iX5_dispute_5 fX5_dispute_29 rfl dX5_dispute_92 rfl rfl (by decide) rfl ?_
                refine m_iload_n hC dX5_dispute_95 2 rfl ?_
                refine m_iaload (o := 25) (n := 100) hC rfl dX5_dispute_96 (by omega) (by omega) (by decide) ?_
                refine m_callSi (n := 2) hC (c_X5_at) gX5_dispute_X5_at rfl dX5_dispute_97 (by decide +kernel) ⟨Nat.le_of_ble_eq_true rfl, Nat.le_of_ble_eq_true rfl⟩ rfl (Nat.le_of_ble_eq_true rfl) ⟨Nat.le_of_ble_eq_true rfl, Nat.le_of_ble_eq_true rfl⟩ rfl ?_
                refine m_istore_n hC dX5_dispute_100 (fun z9 => [(3, .int (z32 z9)), (2, .int (z32 v2_50)), (0, .ref (g.2.2 18)), (1, .int (z32 t))]) (by decide) (fun _ => rfl) (fun v3_100 hv3_100 => ?_)
                rw [q24, q25] at hv3_100
                refine m_aload_n hC dX5_dispute_101 2 rfl ?_
                refine m_getR (o := 18) (j := 13) (a := 29) (CN := RX5) (T := TX5) (N := 19) hC iX5_dispute_5 fX5_dispute_41 rfl dX5_dispute_102 rfl rfl (by decide) rfl ?_
                refine m_iload_n hC dX5_dispute_105 3 rfl ?_
                refine m_aload_n hC dX5_dispute_106 2 rfl ?_
                refine m_getR (o := 18) (j := 10) (a := 26) (CN := RX5) (T := TX5) (N := 19) hC iX5_dispute_5 fX5_dispute_32 rfl dX5_dispute_107 rfl rfl (by decide) rfl ?_
                refine m_iload_n hC dX5_dispute_110 3 rfl ?_
                refine m_iaload (o := 26) (n := 100) hC rfl dX5_dispute_111 (by omega) (by omega) (by decide) ?_
                refine m_aload_n hC dX5_dispute_112 2 rfl ?_
                have e3 : S0 20 v3_100 = S 20 (ix (S 24 t) (S 25 t)) := by rw [q20, hv3_100]
                have e4 : S0 21 v3_100 = S 21 (ix (S 24 t) (S 25 t)) := by rw [q21, hv3_100]
                refine m_getR (o := 18) (j := 3) (a := 20) (CN := RX5) (T := TX5) (N := 19) hC iX5_dispute_5 fX5_dispute_13 rfl dX5_dispute_113 rfl rfl (by decide) rfl ?_
                refine m_iload_n hC dX5_dispute_116 0 rfl ?_
                refine m_iaload (o := 20) (n := 81) hC rfl dX5_dispute_117 (by omega) (by omega) (by decide) ?_
                refine m_aload_n hC dX5_dispute_118 2 rfl ?_
                refine m_getR (o := 18) (j := 4) (a := 21) (CN := RX5) (T := TX5) (N := 19) hC iX5_dispute_5 fX5_dispute_17 rfl dX5_dispute_119 rfl rfl (by decide) rfl ?_
                refine m_iload_n hC dX5_dispute_122 0 rfl ?_
                refine m_iaload (o := 21) (n := 81) hC rfl dX5_dispute_123 (by omega) (by omega) (by decide) ?_
                refine m_isub hC dX5_dispute_124 ?_
                refine m_callSi (n := 2) hC (c_X5_least (by omega) (by omega)) gX5_dispute_X5_least rfl dX5_dispute_125 (by decide +kernel) ⟨Nat.le_of_ble_eq_true rfl, Nat.le_of_ble_eq_true rfl⟩ rfl (Nat.le_of_ble_eq_true rfl) ⟨Nat.le_of_ble_eq_true rfl, Nat.le_of_ble_eq_true rfl⟩ rfl ?_
                refine m_iastore (o := 29) (n := 100) hC rfl dX5_dispute_128 (by omega) (by omega) (by decide) ?_
                refine m_aload_n hC dX5_dispute_129 2 rfl ?_
                refine m_getR (o := 18) (j := 4) (a := 21) (CN := RX5) (T := TX5) (N := 19) hC iX5_dispute_5 fX5_dispute_17 rfl dX5_dispute_130 rfl rfl (by decide) rfl ?_
                refine m_iload_n hC dX5_dispute_133 0 rfl ?_
                refine m_dup2 hC dX5_dispute_134 rfl rfl ?_
                refine m_iaload (o := 21) (n := 81) hC rfl dX5_dispute_135 (by omega) (by omega) (by decide) ?_
                refine m_aload_n hC dX5_dispute_136 2 rfl ?_
                refine m_getR (o := 18) (j := 13) (a := 29) (CN := RX5) (T := TX5) (N := 19) hC iX5_dispute_5 fX5_dispute_41 rfl dX5_dispute_137 rfl rfl (by decide) rfl ?_
                refine m_iload_n hC dX5_dispute_140 3 rfl ?_
                refine m_iaload (o := 29) (n := 100) hC rfl dX5_dispute_141 (by omega) (by omega) (by decide) ?_
                refine m_iadd hC dX5_dispute_142 ?_
                refine m_iastore (o := 21) (n := 81) hC rfl dX5_dispute_143 (by omega) (by omega) (by decide) ?_
                refine m_aload_n hC dX5_dispute_144 2 rfl ?_
                refine m_getR (o := 18) (j := 12) (a := 28) (CN := RX5) (T := TX5) (N := 19) hC iX5_dispute_5 fX5_dispute_38 rfl dX5_dispute_145 rfl rfl (by decide) rfl ?_
                refine m_iload_n hC dX5_dispute_148 3 rfl ?_
                refine m_iconst (v := 1) hC dX5_dispute_149 (by decide) ?_
                refine m_iastore (o := 28) (n := 100) hC rfl dX5_dispute_150 (by omega) (by omega) (by decide) ?_
                refine m_aload_n hC dX5_dispute_151 2 rfl ?_
                refine m_getR (o := 18) (j := 13) (a := 29) (CN := RX5) (T := TX5) (N := 19) hC iX5_dispute_5 fX5_dispute_41 rfl dX5_dispute_152 rfl rfl (by decide) rfl ?_
                refine m_iload_n hC dX5_dispute_155 3 rfl ?_
                refine m_iaload (o := 29) (n := 100) hC rfl dX5_dispute_156 (by omega) (by omega) (by decide) ?_
                refine m_iretx hC hR (Or.inl rfl) dX5_dispute_157 ⟨Nat.le_of_ble_eq_true rfl, Nat.le_of_ble_eq_true rfl⟩ ?_
                refine RP_ok hcd ?_ ?_
                · simp (decide := true) only [mset_o, mset_hit]; rw [e3, e4, q26]; rfl
                · rw [hS0]; unfold stDisp ptD thr; rw [hv3_100]; simp (decide := true) only [mset_o, mset_hit]
              · exfalso; omega
          · have b_57 := bI_0 (Decidable.of_not_not c_57)
            refine m_iconst (v := 1) hC dX5_dispute_60 (by decide) ?_
            refine m_goto (tgt := 73) hC dX5_dispute_61 (by decide) ?_
            have hcd : cdDisp S t = 1 := by unfold cdDisp; first | (simp [*]; done) | (exfalso; simp_all; done)
            refine m_putI (o := 18) (j := 0) (ji := 0) (CN := RX5) (T := TX5) (N := 19) hC iX5_dispute_5 fX5_dispute_54 rfl dX5_dispute_73 rfl rfl (by decide) rfl tyX5 tyX5_ok nmX5 rfl (by decide +kernel) rfl ?_
            refine m_aload_n hC dX5_dispute_76 1 rfl ?_
            refine m_getI (o := 18) (j := 0) (ji := 0) (CN := RX5) (T := TX5) (N := 19) hC iX5_dispute_5 fX5_dispute_54 rfl dX5_dispute_77 rfl rfl (by decide) rfl rfl ?_
            rw [mset_hit]
            refine m_if_le (tgt := 85) hC dX5_dispute_80 (by decide) (by omega) (fun c_80 => ?_) (fun c_80 => ?_)
            · exfalso; omega
            · refine m_iconst (v := 0) hC dX5_dispute_83 (by decide) ?_
              refine m_iretx hC hR (Or.inl rfl) dX5_dispute_84 ⟨Nat.le_of_ble_eq_true rfl, Nat.le_of_ble_eq_true rfl⟩ ?_
              exact RP_bad hcd (by decide)
theorem iX5_settle_5 : ∀ w ∈ wsX50, w ∈ wsX5_settle := by decide +kernel
theorem fX5_settle_38 : Cond.fieldLink RX5 38 "MutualledgerModel" "state" "[I" ∈ wsX5_settle := by decide +kernel
theorem fX5_settle_54 : Cond.fieldLink RX5 54 "MutualledgerModel" "thrown" "I" ∈ wsX5_settle := by decide +kernel
theorem fX5_settle_26 : Cond.fieldLink RX5 26 "MutualledgerModel" "buyer" "[I" ∈ wsX5_settle := by decide +kernel
theorem fX5_settle_29 : Cond.fieldLink RX5 29 "MutualledgerModel" "seller" "[I" ∈ wsX5_settle := by decide +kernel
theorem fX5_settle_17 : Cond.fieldLink RX5 17 "MutualledgerModel" "frozen" "[I" ∈ wsX5_settle := by decide +kernel
theorem fX5_settle_41 : Cond.fieldLink RX5 41 "MutualledgerModel" "part" "[I" ∈ wsX5_settle := by decide +kernel
theorem fX5_settle_13 : Cond.fieldLink RX5 13 "MutualledgerModel" "owes" "[I" ∈ wsX5_settle := by decide +kernel
theorem fX5_settle_32 : Cond.fieldLink RX5 32 "MutualledgerModel" "amount" "[I" ∈ wsX5_settle := by decide +kernel
set_option maxHeartbeats 4000000 in
set_option maxRecDepth 100000 in
theorem c_X5_settle {g : mG} {S : Mem} {t : Int} (ht : -2147483648 ≤ t ∧ t < 2147483648) {z : Int} (hz : z = 0 ∨ z = 1) (hg : RgR S) (hok : OkD (S 20)) (hgu : OkD (S 22)) (hfz : Fz (S 20) (S 21)) (l : Launch) : Does l yX5_settle wsX5_settle ({ frames := 2, cells := 0, slots := 0, locals := 43 } : Room) g [.ref (g.2.2 18), .int (z32 t), .int (z32 z)] S (PIx (fun v S' => RP S (cdSett S t) (moS S t z) (stSett S t z) v S')) := by
  refine Does.of (cc := cX5_settle) (maxL := 5) (ret := (some .int)) (own := RX5) (by decide) rfl rfl (Nat.le_of_ble_eq_true rfl) ?_
  intro C hC hR
  show MW C g 5 (0, 0) 0 [(0, .ref (g.2.2 18)), (1, .int (z32 t)), (2, .int (z32 z))] [] S
  obtain ⟨r1, r2, r3, r4, r5, r6, r7⟩ := id hg
  have q := r7 t
  refine m_aload_n hC dX5_settle_0 0 rfl ?_
  refine m_aload_n hC dX5_settle_1 0 rfl ?_
  refine m_iload_n hC dX5_settle_2 1 rfl ?_
  refine m_callVi (n := 1) hC (c_X5_isTrade ht hg) gX5_settle_X5_isTrade rfl dX5_settle_3 rfl rfl (by decide +kernel) ⟨Nat.le_of_ble_eq_true rfl, Nat.le_of_ble_eq_true rfl⟩ rfl (Nat.le_of_ble_eq_true rfl) ⟨Nat.le_of_ble_eq_true rfl, Nat.le_of_ble_eq_true rfl⟩ rfl ?_
  refine m_if_ne (tgt := 13) hC dX5_settle_6 (by decide) (bI_32 _) (fun c_6 => ?_) (fun c_6 => ?_)
  · have b_6 := bI_1 c_6
    have l1 := trR_in b_6 hg
    refine m_aload_n hC dX5_settle_13 0 rfl ?_
    refine m_getR (o := 18) (j := 12) (a := 28) (CN := RX5) (T := TX5) (N := 19) hC iX5_settle_5 fX5_settle_38 rfl dX5_settle_14 rfl rfl (by decide) rfl ?_
    refine m_iload_n hC dX5_settle_17 1 rfl ?_
    refine m_iaload (o := 28) (n := 100) hC rfl dX5_settle_18 (by omega) (by omega) (by decide) ?_
    refine m_iconst (v := 1) hC dX5_settle_19 (by decide) ?_
    refine m_icmp_ne (tgt := 27) hC dX5_settle_20 (by decide) (by omega) (by omega) (fun c_20 => ?_) (fun c_20 => ?_)
    · refine m_iconst (v := 2) hC dX5_settle_27 (by decide) ?_
      have hcd : cdSett S t = 2 := by unfold cdSett; first | (simp [*]; done) | (exfalso; simp_all; done)
      refine m_putI (o := 18) (j := 0) (ji := 0) (CN := RX5) (T := TX5) (N := 19) hC iX5_settle_5 fX5_settle_54 rfl dX5_settle_28 rfl rfl (by decide) rfl tyX5 tyX5_ok nmX5 rfl (by decide +kernel) rfl ?_
      refine m_aload_n hC dX5_settle_31 0 rfl ?_
      refine m_getI (o := 18) (j := 0) (ji := 0) (CN := RX5) (T := TX5) (N := 19) hC iX5_settle_5 fX5_settle_54 rfl dX5_settle_32 rfl rfl (by decide) rfl rfl ?_
      rw [mset_hit]
      refine m_if_le (tgt := 40) hC dX5_settle_35 (by decide) (by omega) (fun c_35 => ?_) (fun c_35 => ?_)
      · exfalso; omega
      · refine m_iconst (v := 0) hC dX5_settle_38 (by decide) ?_
        refine m_iretx hC hR (Or.inl rfl) dX5_settle_39 ⟨Nat.le_of_ble_eq_true rfl, Nat.le_of_ble_eq_true rfl⟩ ?_
        exact RP_bad hcd (by decide)
    · refine m_iconst (v := 0) hC dX5_settle_23 (by decide) ?_
      refine m_goto (tgt := 28) hC dX5_settle_24 (by decide) ?_
      have hcd : cdSett S t = 0 := by unfold cdSett; first | (simp [*]; done) | (exfalso; simp_all; done)
      refine m_putI (o := 18) (j := 0) (ji := 0) (CN := RX5) (T := TX5) (N := 19) hC iX5_settle_5 fX5_settle_54 rfl dX5_settle_28 rfl rfl (by decide) rfl tyX5 tyX5_ok nmX5 rfl (by decide +kernel) rfl ?_
      refine m_aload_n hC dX5_settle_31 0 rfl ?_
      refine m_getI (o := 18) (j := 0) (ji := 0) (CN := RX5) (T := TX5) (N := 19) hC iX5_settle_5 fX5_settle_54 rfl dX5_settle_32 rfl rfl (by decide) rfl rfl ?_
      rw [mset_hit]
      refine m_if_le (tgt := 40) hC dX5_settle_35 (by decide) (by omega) (fun c_35 => ?_) (fun c_35 => ?_)
      · obtain ⟨S0, hS0, hg0, q1, q7, q14, q15, q16, qo⟩ := thr0 S hg
        rw [← hS0]
        have q20 := qo 20 (by decide)
        have q21 := qo 21 (by decide)
        have q24 := qo 24 (by decide)
        have q25 := qo 25 (by decide)
        have q26 := qo 26 (by decide)
        have q29 := qo 29 (by decide)
        have p1 := hg0.2.2.2.2.2.2 t
        have k0 := ix_lo (i := S 24 t) (j := S 25 t) (by omega) (by omega)
        have k1 := ix_hi (i := S 24 t) (j := S 25 t) (by omega) (by omega)
        have k2 := ix_lo (i := S 25 t) (j := S 24 t) (by omega) (by omega)
        have k3 := ix_hi (i := S 25 t) (j := S 24 t) (by omega) (by omega)
        refine m_aload_n hC dX5_settle_40 0 rfl ?_
        refine m_getR (o := 18) (j := 8) (a := 24) (CN := RX5) (T := TX5) (N := 19) hC iX5_settle_5 fX5_settle_26 rfl dX5_settle_41 rfl rfl (by decide) rfl ?_
        refine m_iload_n hC dX5_settle_44 1 rfl ?_
        refine m_iaload (o := 24) (n := 100) hC rfl dX5_settle_45 (by omega) (by omega) (by decide) ?_
        refine m_aload_n hC dX5_settle_46 0 rfl ?_
        refine m_getR (o := 18) (j := 9) (a := 25) (CN := RX5) (T := TX5) (N := 19) hC iX5_settle_5 fX5_settle_29 rfl dX5_settle_47 rfl rfl (by decide) rfl ?_
        refine m_iload_n hC dX5_settle_50 1 rfl ?_
        refine m_iaload (o := 25) (n := 100) hC rfl dX5_settle_51 (by omega) (by omega) (by decide) ?_
        refine m_callSi (n := 2) hC (c_X5_at) gX5_settle_X5_at rfl dX5_settle_52 (by decide +kernel) ⟨Nat.le_of_ble_eq_true rfl, Nat.le_of_ble_eq_true rfl⟩ rfl (Nat.le_of_ble_eq_true rfl) ⟨Nat.le_of_ble_eq_true rfl, Nat.le_of_ble_eq_true rfl⟩ rfl ?_
        refine m_istore_n hC dX5_settle_55 (fun z9 => [(3, .int (z32 z9)), (0, .ref (g.2.2 18)), (1, .int (z32 t)), (2, .int (z32 z))]) (by decide) (fun _ => rfl) (fun v3_55 hv3_55 => ?_)
        rw [q24, q25] at hv3_55
        refine m_iload_n hC dX5_settle_56 3 rfl ?_
        refine m_if_eq (tgt := 76) hC dX5_settle_57 (by decide) (by omega) (fun c_57 => ?_) (fun c_57 => ?_)
        · refine m_iconst (v := 0) hC dX5_settle_76 (by decide) ?_
          refine m_istore hC dX5_settle_77 (fun z9 => [(4, .int (z32 z9)), (3, .int (z32 v3_55)), (0, .ref (g.2.2 18)), (1, .int (z32 t)), (2, .int (z32 z))]) (by decide) (fun _ => rfl) (fun v4_77 hv4_77 => ?_)
          refine m_aload_n hC dX5_settle_79 2 rfl ?_
          refine m_getR (o := 18) (j := 4) (a := 21) (CN := RX5) (T := TX5) (N := 19) hC iX5_settle_5 fX5_settle_17 rfl dX5_settle_80 rfl rfl (by decide) rfl ?_
          refine m_iload_n hC dX5_settle_83 1 rfl ?_
          refine m_dup2 hC dX5_settle_84 rfl rfl ?_
          refine m_iaload (o := 21) (n := 81) hC rfl dX5_settle_85 (by omega) (by omega) (by decide) ?_
          refine m_aload_n hC dX5_settle_86 2 rfl ?_
          refine m_getR (o := 18) (j := 13) (a := 29) (CN := RX5) (T := TX5) (N := 19) hC iX5_settle_5 fX5_settle_41 rfl dX5_settle_87 rfl rfl (by decide) rfl ?_
          refine m_iload_n hC dX5_settle_90 3 rfl ?_
          refine m_iaload (o := 29) (n := 100) hC rfl dX5_settle_91 (by omega) (by omega) (by decide) ?_
          refine m_isub hC dX5_settle_92 ?_
          refine m_iastore (o := 21) (n := 81) hC rfl dX5_settle_93 (by omega) (by omega) (by decide) ?_
          refine m_aload_n hC dX5_settle_94 2 rfl ?_
          refine m_getR (o := 18) (j := 3) (a := 20) (CN := RX5) (T := TX5) (N := 19) hC iX5_settle_5 fX5_settle_13 rfl dX5_settle_95 rfl rfl (by decide) rfl ?_
          refine m_iload_n hC dX5_settle_98 1 rfl ?_
          refine m_dup2 hC dX5_settle_99 rfl rfl ?_
          refine m_iaload (o := 20) (n := 81) hC rfl dX5_settle_100 (by omega) (by omega) (by decide) ?_
          refine m_iload_n hC dX5_settle_101 4 rfl ?_
          refine m_if_eq (tgt := 114) hC dX5_settle_102 (by decide) (by omega) (fun c_102 => ?_) (fun c_102 => ?_)
          · refine m_iconst (v := 0) hC dX5_settle_114 (by decide) ?_
            refine m_isub hC dX5_settle_115 ?_
            refine m_iastore (o := 20) (n := 81) hC rfl dX5_settle_116 (by omega) (by omega) (by decide) ?_
            refine m_aload_n hC dX5_settle_117 2 rfl ?_
            refine m_getR (o := 18) (j := 3) (a := 20) (CN := RX5) (T := TX5) (N := 19) hC iX5_settle_5 fX5_settle_13 rfl dX5_settle_118 rfl rfl (by decide) rfl ?_
            refine m_aload_n hC dX5_settle_121 2 rfl ?_
            refine m_getR (o := 18) (j := 9) (a := 25) (CN := RX5) (T := TX5) (N := 19) hC iX5_settle_5 fX5_settle_29 rfl dX5_settle_122 rfl rfl (by decide) rfl ?_
            refine m_iload_n hC dX5_settle_125 3 rfl ?_
            refine m_iaload (o := 25) (n := 100) hC rfl dX5_settle_126 (by omega) (by omega) (by decide) ?_
            refine m_aload_n hC dX5_settle_127 2 rfl ?_
            refine m_getR (o := 18) (j := 8) (a := 24) (CN := RX5) (T := TX5) (N := 19) hC iX5_settle_5 fX5_settle_26 rfl dX5_settle_128 rfl rfl (by decide) rfl ?_
            refine m_iload_n hC dX5_settle_131 3 rfl ?_
            refine m_iaload (o := 24) (n := 100) hC rfl dX5_settle_132 (by omega) (by omega) (by decide) ?_
            simp (decide := true) only [mset_o]
            rw [q24, q25]
            refine m_callSi (n := 2) hC (c_X5_at) gX5_settle_X5_at rfl dX5_settle_133 (by decide +kernel) ⟨Nat.le_of_ble_eq_true rfl, Nat.le_of_ble_eq_true rfl⟩ rfl (Nat.le_of_ble_eq_true rfl) ⟨Nat.le_of_ble_eq_true rfl, Nat.le_of_ble_eq_true rfl⟩ rfl ?_
            refine m_dup2 hC dX5_settle_136 rfl rfl ?_
            refine m_iaload (o := 20) (n := 81) hC rfl dX5_settle_137 (ix_lo (by omega) (by omega)) (ix_hi (by omega) (by omega)) (by decide) ?_
            refine m_iload hC dX5_settle_138 0 rfl ?_
            refine m_iadd hC dX5_settle_140 ?_
            refine m_iastore (o := 20) (n := 81) hC rfl dX5_settle_141 (ix_lo (by omega) (by omega)) (ix_hi (by omega) (by omega)) (by decide) ?_
            refine m_aload_n hC dX5_settle_142 2 rfl ?_
            refine m_getR (o := 18) (j := 13) (a := 29) (CN := RX5) (T := TX5) (N := 19) hC iX5_settle_5 fX5_settle_41 rfl dX5_settle_143 rfl rfl (by decide) rfl ?_
            refine m_iload_n hC dX5_settle_146 3 rfl ?_
            refine m_iconst (v := 0) hC dX5_settle_147 (by decide) ?_
            refine m_iastore (o := 29) (n := 100) hC rfl dX5_settle_148 (by omega) (by omega) (by decide) ?_
            refine m_aload_n hC dX5_settle_149 2 rfl ?_
            refine m_getR (o := 18) (j := 12) (a := 28) (CN := RX5) (T := TX5) (N := 19) hC iX5_settle_5 fX5_settle_38 rfl dX5_settle_150 rfl rfl (by decide) rfl ?_
            refine m_iload_n hC dX5_settle_153 3 rfl ?_
            refine m_iload_n hC dX5_settle_154 4 rfl ?_
            refine m_if_eq (tgt := 162) hC dX5_settle_155 (by decide) (by omega) (fun c_155 => ?_) (fun c_155 => ?_)
            · refine m_iconst (v := 0) hC dX5_settle_162 (by decide) ?_
              refine m_iastore (o := 28) (n := 100) hC rfl dX5_settle_163 (by omega) (by omega) (by decide) ?_
              refine m_iload hC dX5_settle_164 0 rfl ?_
              refine m_iretx hC hR (Or.inl rfl) dX5_settle_166 ⟨Nat.le_of_ble_eq_true rfl, Nat.le_of_ble_eq_true rfl⟩ ?_
              first | (exfalso; omega) | (refine RP_ok hcd ?_ ?_ <;> rcases hz with hz0 | hz0 <;> subst hz0 <;> (try (exfalso; omega)) <;> (try rw [hv3_55]) <;> (try rw [hv4_77]) <;> (try simp (decide := true) only [mset_mput, mput_same, mput_ne, mput_mput, q24, q25, q26, q29, q20, q21, qo 28 (by decide)]) <;> (try (simp (decide := true) only [moS, if_true, if_false, ↓reduceIte, q26, q29]; done)) <;> unfold stSett pzS moS adF thr <;> rw [hS0] <;> simp (decide := true) only [if_true, if_false, ↓reduceIte, Int.sub_eq_add_neg])
            · refine m_iconst (v := 2) hC dX5_settle_158 (by decide) ?_
              refine m_goto (tgt := 163) hC dX5_settle_159 (by decide) ?_
              refine m_iastore (o := 28) (n := 100) hC rfl dX5_settle_163 (by omega) (by omega) (by decide) ?_
              refine m_iload hC dX5_settle_164 0 rfl ?_
              refine m_iretx hC hR (Or.inl rfl) dX5_settle_166 ⟨Nat.le_of_ble_eq_true rfl, Nat.le_of_ble_eq_true rfl⟩ ?_
              first | (exfalso; omega) | (refine RP_ok hcd ?_ ?_ <;> rcases hz with hz0 | hz0 <;> subst hz0 <;> (try (exfalso; omega)) <;> (try rw [hv3_55]) <;> (try rw [hv4_77]) <;> (try simp (decide := true) only [mset_mput, mput_same, mput_ne, mput_mput, q24, q25, q26, q29, q20, q21, qo 28 (by decide)]) <;> (try (simp (decide := true) only [moS, if_true, if_false, ↓reduceIte, q26, q29]; done)) <;> unfold stSett pzS moS adF thr <;> rw [hS0] <;> simp (decide := true) only [if_true, if_false, ↓reduceIte, Int.sub_eq_add_neg])
          · refine m_aload_n hC dX5_settle_105 2 rfl ?_
            refine m_getR (o := 18) (j := 13) (a := 29) (CN := RX5) (T := TX5) (N := 19) hC iX5_settle_5 fX5_settle_41 rfl dX5_settle_106 rfl rfl (by decide) rfl ?_
            refine m_iload_n hC dX5_settle_109 3 rfl ?_
            refine m_iaload (o := 29) (n := 100) hC rfl dX5_settle_110 (by omega) (by omega) (by decide) ?_
            refine m_goto (tgt := 115) hC dX5_settle_111 (by decide) ?_
            refine m_isub hC dX5_settle_115 ?_
            refine m_iastore (o := 20) (n := 81) hC rfl dX5_settle_116 (by omega) (by omega) (by decide) ?_
            refine m_aload_n hC dX5_settle_117 2 rfl ?_
            refine m_getR (o := 18) (j := 3) (a := 20) (CN := RX5) (T := TX5) (N := 19) hC iX5_settle_5 fX5_settle_13 rfl dX5_settle_118 rfl rfl (by decide) rfl ?_
            refine m_aload_n hC dX5_settle_121 2 rfl ?_
            refine m_getR (o := 18) (j := 9) (a := 25) (CN := RX5) (T := TX5) (N := 19) hC iX5_settle_5 fX5_settle_29 rfl dX5_settle_122 rfl rfl (by decide) rfl ?_
            refine m_iload_n hC dX5_settle_125 3 rfl ?_
            refine m_iaload (o := 25) (n := 100) hC rfl dX5_settle_126 (by omega) (by omega) (by decide) ?_
            refine m_aload_n hC dX5_settle_127 2 rfl ?_
            refine m_getR (o := 18) (j := 8) (a := 24) (CN := RX5) (T := TX5) (N := 19) hC iX5_settle_5 fX5_settle_26 rfl dX5_settle_128 rfl rfl (by decide) rfl ?_
            refine m_iload_n hC dX5_settle_131 3 rfl ?_
            refine m_iaload (o := 24) (n := 100) hC rfl dX5_settle_132 (by omega) (by omega) (by decide) ?_
            simp (decide := true) only [mset_o]
            rw [q24, q25]
            refine m_callSi (n := 2) hC (c_X5_at) gX5_settle_X5_at rfl dX5_settle_133 (by decide +kernel) ⟨Nat.le_of_ble_eq_true rfl, Nat.le_of_ble_eq_true rfl⟩ rfl (Nat.le_of_ble_eq_true rfl) ⟨Nat.le_of_ble_eq_true rfl, Nat.le_of_ble_eq_true rfl⟩ rfl ?_
            refine m_dup2 hC dX5_settle_136 rfl rfl ?_
            refine m_iaload (o := 20) (n := 81) hC rfl dX5_settle_137 (ix_lo (by omega) (by omega)) (ix_hi (by omega) (by omega)) (by decide) ?_
            refine m_iload hC dX5_settle_138 0 rfl ?_
            refine m_iadd hC dX5_settle_140 ?_
            refine m_iastore (o := 20) (n := 81) hC rfl dX5_settle_141 (ix_lo (by omega) (by omega)) (ix_hi (by omega) (by omega)) (by decide) ?_
            refine m_aload_n hC dX5_settle_142 2 rfl ?_
            refine m_getR (o := 18) (j := 13) (a := 29) (CN := RX5) (T := TX5) (N := 19) hC iX5_settle_5 fX5_settle_41 rfl dX5_settle_143 rfl rfl (by decide) rfl ?_
            refine m_iload_n hC dX5_settle_146 3 rfl ?_
            refine m_iconst (v := 0) hC dX5_settle_147 (by decide) ?_
            refine m_iastore (o := 29) (n := 100) hC rfl dX5_settle_148 (by omega) (by omega) (by decide) ?_
            refine m_aload_n hC dX5_settle_149 2 rfl ?_
            refine m_getR (o := 18) (j := 12) (a := 28) (CN := RX5) (T := TX5) (N := 19) hC iX5_settle_5 fX5_settle_38 rfl dX5_settle_150 rfl rfl (by decide) rfl ?_
            refine m_iload_n hC dX5_settle_153 3 rfl ?_
            refine m_iload_n hC dX5_settle_154 4 rfl ?_
            refine m_if_eq (tgt := 162) hC dX5_settle_155 (by decide) (by omega) (fun c_155 => ?_) (fun c_155 => ?_)
            · refine m_iconst (v := 0) hC dX5_settle_162 (by decide) ?_
              refine m_iastore (o := 28) (n := 100) hC rfl dX5_settle_163 (by omega) (by omega) (by decide) ?_
              refine m_iload hC dX5_settle_164 0 rfl ?_
              refine m_iretx hC hR (Or.inl rfl) dX5_settle_166 ⟨Nat.le_of_ble_eq_true rfl, Nat.le_of_ble_eq_true rfl⟩ ?_
              first | (exfalso; omega) | (refine RP_ok hcd ?_ ?_ <;> rcases hz with hz0 | hz0 <;> subst hz0 <;> (try (exfalso; omega)) <;> (try rw [hv3_55]) <;> (try rw [hv4_77]) <;> (try simp (decide := true) only [mset_mput, mput_same, mput_ne, mput_mput, q24, q25, q26, q29, q20, q21, qo 28 (by decide)]) <;> (try (simp (decide := true) only [moS, if_true, if_false, ↓reduceIte, q26, q29]; done)) <;> unfold stSett pzS moS adF thr <;> rw [hS0] <;> simp (decide := true) only [if_true, if_false, ↓reduceIte, Int.sub_eq_add_neg])
            · refine m_iconst (v := 2) hC dX5_settle_158 (by decide) ?_
              refine m_goto (tgt := 163) hC dX5_settle_159 (by decide) ?_
              refine m_iastore (o := 28) (n := 100) hC rfl dX5_settle_163 (by omega) (by omega) (by decide) ?_
              refine m_iload hC dX5_settle_164 0 rfl ?_
              refine m_iretx hC hR (Or.inl rfl) dX5_settle_166 ⟨Nat.le_of_ble_eq_true rfl, Nat.le_of_ble_eq_true rfl⟩ ?_
              first | (exfalso; omega) | (refine RP_ok hcd ?_ ?_ <;> rcases hz with hz0 | hz0 <;> subst hz0 <;> (try (exfalso; omega)) <;> (try rw [hv3_55]) <;> (try rw [hv4_77]) <;> (try simp (decide := true) only [mset_mput, mput_same, mput_ne, mput_mput, q24, q25, q26, q29, q20, q21, qo 28 (by decide)]) <;> (try (simp (decide := true) only [moS, if_true, if_false, ↓reduceIte, q26, q29]; done)) <;> unfold stSett pzS moS adF thr <;> rw [hS0] <;> simp (decide := true) only [if_true, if_false, ↓reduceIte, Int.sub_eq_add_neg])
        · refine m_aload_n hC dX5_settle_60 1 rfl ?_
          refine m_getR (o := 18) (j := 10) (a := 26) (CN := RX5) (T := TX5) (N := 19) hC iX5_settle_5 fX5_settle_32 rfl dX5_settle_61 rfl rfl (by decide) rfl ?_
          refine m_iload_n hC dX5_settle_64 2 rfl ?_
          refine m_iaload (o := 26) (n := 100) hC rfl dX5_settle_65 (by omega) (by omega) (by decide) ?_
          refine m_aload_n hC dX5_settle_66 1 rfl ?_
          refine m_getR (o := 18) (j := 13) (a := 29) (CN := RX5) (T := TX5) (N := 19) hC iX5_settle_5 fX5_settle_41 rfl dX5_settle_67 rfl rfl (by decide) rfl ?_
          refine m_iload_n hC dX5_settle_70 2 rfl ?_
          refine m_iaload (o := 29) (n := 100) hC rfl dX5_settle_71 (by omega) (by omega) (by decide) ?_
          refine m_isub hC dX5_settle_72 ?_
          refine m_goto (tgt := 77) hC dX5_settle_73 (by decide) ?_
          refine m_istore hC dX5_settle_77 (fun z9 => [(4, .int (z32 z9)), (3, .int (z32 v3_55)), (0, .ref (g.2.2 18)), (1, .int (z32 t)), (2, .int (z32 z))]) (by decide) (fun _ => rfl) (fun v4_77 hv4_77 => ?_)
          refine m_aload_n hC dX5_settle_79 2 rfl ?_
          refine m_getR (o := 18) (j := 4) (a := 21) (CN := RX5) (T := TX5) (N := 19) hC iX5_settle_5 fX5_settle_17 rfl dX5_settle_80 rfl rfl (by decide) rfl ?_
          refine m_iload_n hC dX5_settle_83 1 rfl ?_
          refine m_dup2 hC dX5_settle_84 rfl rfl ?_
          refine m_iaload (o := 21) (n := 81) hC rfl dX5_settle_85 (by omega) (by omega) (by decide) ?_
          refine m_aload_n hC dX5_settle_86 2 rfl ?_
          refine m_getR (o := 18) (j := 13) (a := 29) (CN := RX5) (T := TX5) (N := 19) hC iX5_settle_5 fX5_settle_41 rfl dX5_settle_87 rfl rfl (by decide) rfl ?_
          refine m_iload_n hC dX5_settle_90 3 rfl ?_
          refine m_iaload (o := 29) (n := 100) hC rfl dX5_settle_91 (by omega) (by omega) (by decide) ?_
          refine m_isub hC dX5_settle_92 ?_
          refine m_iastore (o := 21) (n := 81) hC rfl dX5_settle_93 (by omega) (by omega) (by decide) ?_
          refine m_aload_n hC dX5_settle_94 2 rfl ?_
          refine m_getR (o := 18) (j := 3) (a := 20) (CN := RX5) (T := TX5) (N := 19) hC iX5_settle_5 fX5_settle_13 rfl dX5_settle_95 rfl rfl (by decide) rfl ?_
          refine m_iload_n hC dX5_settle_98 1 rfl ?_
          refine m_dup2 hC dX5_settle_99 rfl rfl ?_
          refine m_iaload (o := 20) (n := 81) hC rfl dX5_settle_100 (by omega) (by omega) (by decide) ?_
          refine m_iload_n hC dX5_settle_101 4 rfl ?_
          refine m_if_eq (tgt := 114) hC dX5_settle_102 (by decide) (by omega) (fun c_102 => ?_) (fun c_102 => ?_)
          · refine m_iconst (v := 0) hC dX5_settle_114 (by decide) ?_
            refine m_isub hC dX5_settle_115 ?_
            refine m_iastore (o := 20) (n := 81) hC rfl dX5_settle_116 (by omega) (by omega) (by decide) ?_
            refine m_aload_n hC dX5_settle_117 2 rfl ?_
            refine m_getR (o := 18) (j := 3) (a := 20) (CN := RX5) (T := TX5) (N := 19) hC iX5_settle_5 fX5_settle_13 rfl dX5_settle_118 rfl rfl (by decide) rfl ?_
            refine m_aload_n hC dX5_settle_121 2 rfl ?_
            refine m_getR (o := 18) (j := 9) (a := 25) (CN := RX5) (T := TX5) (N := 19) hC iX5_settle_5 fX5_settle_29 rfl dX5_settle_122 rfl rfl (by decide) rfl ?_
            refine m_iload_n hC dX5_settle_125 3 rfl ?_
            refine m_iaload (o := 25) (n := 100) hC rfl dX5_settle_126 (by omega) (by omega) (by decide) ?_
            refine m_aload_n hC dX5_settle_127 2 rfl ?_
            refine m_getR (o := 18) (j := 8) (a := 24) (CN := RX5) (T := TX5) (N := 19) hC iX5_settle_5 fX5_settle_26 rfl dX5_settle_128 rfl rfl (by decide) rfl ?_
            refine m_iload_n hC dX5_settle_131 3 rfl ?_
            refine m_iaload (o := 24) (n := 100) hC rfl dX5_settle_132 (by omega) (by omega) (by decide) ?_
            simp (decide := true) only [mset_o]
            rw [q24, q25]
            refine m_callSi (n := 2) hC (c_X5_at) gX5_settle_X5_at rfl dX5_settle_133 (by decide +kernel) ⟨Nat.le_of_ble_eq_true rfl, Nat.le_of_ble_eq_true rfl⟩ rfl (Nat.le_of_ble_eq_true rfl) ⟨Nat.le_of_ble_eq_true rfl, Nat.le_of_ble_eq_true rfl⟩ rfl ?_
            refine m_dup2 hC dX5_settle_136 rfl rfl ?_
            refine m_iaload (o := 20) (n := 81) hC rfl dX5_settle_137 (ix_lo (by omega) (by omega)) (ix_hi (by omega) (by omega)) (by decide) ?_
            refine m_iload hC dX5_settle_138 0 rfl ?_
            refine m_iadd hC dX5_settle_140 ?_
            refine m_iastore (o := 20) (n := 81) hC rfl dX5_settle_141 (ix_lo (by omega) (by omega)) (ix_hi (by omega) (by omega)) (by decide) ?_
            refine m_aload_n hC dX5_settle_142 2 rfl ?_
            refine m_getR (o := 18) (j := 13) (a := 29) (CN := RX5) (T := TX5) (N := 19) hC iX5_settle_5 fX5_settle_41 rfl dX5_settle_143 rfl rfl (by decide) rfl ?_
            refine m_iload_n hC dX5_settle_146 3 rfl ?_
            refine m_iconst (v := 0) hC dX5_settle_147 (by decide) ?_
            refine m_iastore (o := 29) (n := 100) hC rfl dX5_settle_148 (by omega) (by omega) (by decide) ?_
            refine m_aload_n hC dX5_settle_149 2 rfl ?_
            refine m_getR (o := 18) (j := 12) (a := 28) (CN := RX5) (T := TX5) (N := 19) hC iX5_settle_5 fX5_settle_38 rfl dX5_settle_150 rfl rfl (by decide) rfl ?_
            refine m_iload_n hC dX5_settle_153 3 rfl ?_
            refine m_iload_n hC dX5_settle_154 4 rfl ?_
            refine m_if_eq (tgt := 162) hC dX5_settle_155 (by decide) (by omega) (fun c_155 => ?_) (fun c_155 => ?_)
            · refine m_iconst (v := 0) hC dX5_settle_162 (by decide) ?_
              refine m_iastore (o := 28) (n := 100) hC rfl dX5_settle_163 (by omega) (by omega) (by decide) ?_
              refine m_iload hC dX5_settle_164 0 rfl ?_
              refine m_iretx hC hR (Or.inl rfl) dX5_settle_166 ⟨Nat.le_of_ble_eq_true rfl, Nat.le_of_ble_eq_true rfl⟩ ?_
              first | (exfalso; omega) | (refine RP_ok hcd ?_ ?_ <;> rcases hz with hz0 | hz0 <;> subst hz0 <;> (try (exfalso; omega)) <;> (try rw [hv3_55]) <;> (try rw [hv4_77]) <;> (try simp (decide := true) only [mset_mput, mput_same, mput_ne, mput_mput, q24, q25, q26, q29, q20, q21, qo 28 (by decide)]) <;> (try (simp (decide := true) only [moS, if_true, if_false, ↓reduceIte, q26, q29]; done)) <;> unfold stSett pzS moS adF thr <;> rw [hS0] <;> simp (decide := true) only [if_true, if_false, ↓reduceIte, Int.sub_eq_add_neg])
            · refine m_iconst (v := 2) hC dX5_settle_158 (by decide) ?_
              refine m_goto (tgt := 163) hC dX5_settle_159 (by decide) ?_
              refine m_iastore (o := 28) (n := 100) hC rfl dX5_settle_163 (by omega) (by omega) (by decide) ?_
              refine m_iload hC dX5_settle_164 0 rfl ?_
              refine m_iretx hC hR (Or.inl rfl) dX5_settle_166 ⟨Nat.le_of_ble_eq_true rfl, Nat.le_of_ble_eq_true rfl⟩ ?_
              first | (exfalso; omega) | (refine RP_ok hcd ?_ ?_ <;> rcases hz with hz0 | hz0 <;> subst hz0 <;> (try (exfalso; omega)) <;> (try rw [hv3_55]) <;> (try rw [hv4_77]) <;> (try simp (decide := true) only [mset_mput, mput_same, mput_ne, mput_mput, q24, q25, q26, q29, q20, q21, qo 28 (by decide)]) <;> (try (simp (decide := true) only [moS, if_true, if_false, ↓reduceIte, q26, q29]; done)) <;> unfold stSett pzS moS adF thr <;> rw [hS0] <;> simp (decide := true) only [if_true, if_false, ↓reduceIte, Int.sub_eq_add_neg])
          · refine m_aload_n hC dX5_settle_105 2 rfl ?_
            refine m_getR (o := 18) (j := 13) (a := 29) (CN := RX5) (T := TX5) (N := 19) hC iX5_settle_5 fX5_settle_41 rfl dX5_settle_106 rfl rfl (by decide) rfl ?_
            refine m_iload_n hC dX5_settle_109 3 rfl ?_
            refine m_iaload (o := 29) (n := 100) hC rfl dX5_settle_110 (by omega) (by omega) (by decide) ?_
            refine m_goto (tgt := 115) hC dX5_settle_111 (by decide) ?_
            refine m_isub hC dX5_settle_115 ?_
            refine m_iastore (o := 20) (n := 81) hC rfl dX5_settle_116 (by omega) (by omega) (by decide) ?_
            refine m_aload_n hC dX5_settle_117 2 rfl ?_
            refine m_getR (o := 18) (j := 3) (a := 20) (CN := RX5) (T := TX5) (N := 19) hC iX5_settle_5 fX5_settle_13 rfl dX5_settle_118 rfl rfl (by decide) rfl ?_
            refine m_aload_n hC dX5_settle_121 2 rfl ?_
            refine m_getR (o := 18) (j := 9) (a := 25) (CN := RX5) (T := TX5) (N := 19) hC iX5_settle_5 fX5_settle_29 rfl dX5_settle_122 rfl rfl (by decide) rfl ?_
            refine m_iload_n hC dX5_settle_125 3 rfl ?_
            refine m_iaload (o := 25) (n := 100) hC rfl dX5_settle_126 (by omega) (by omega) (by decide) ?_
            refine m_aload_n hC dX5_settle_127 2 rfl ?_
            refine m_getR (o := 18) (j := 8) (a := 24) (CN := RX5) (T := TX5) (N := 19) hC iX5_settle_5 fX5_settle_26 rfl dX5_settle_128 rfl rfl (by decide) rfl ?_
            refine m_iload_n hC dX5_settle_131 3 rfl ?_
            refine m_iaload (o := 24) (n := 100) hC rfl dX5_settle_132 (by omega) (by omega) (by decide) ?_
            simp (decide := true) only [mset_o]
            rw [q24, q25]
            refine m_callSi (n := 2) hC (c_X5_at) gX5_settle_X5_at rfl dX5_settle_133 (by decide +kernel) ⟨Nat.le_of_ble_eq_true rfl, Nat.le_of_ble_eq_true rfl⟩ rfl (Nat.le_of_ble_eq_true rfl) ⟨Nat.le_of_ble_eq_true rfl, Nat.le_of_ble_eq_true rfl⟩ rfl ?_
            refine m_dup2 hC dX5_settle_136 rfl rfl ?_
            refine m_iaload (o := 20) (n := 81) hC rfl dX5_settle_137 (ix_lo (by omega) (by omega)) (ix_hi (by omega) (by omega)) (by decide) ?_
            refine m_iload hC dX5_settle_138 0 rfl ?_
            refine m_iadd hC dX5_settle_140 ?_
            refine m_iastore (o := 20) (n := 81) hC rfl dX5_settle_141 (ix_lo (by omega) (by omega)) (ix_hi (by omega) (by omega)) (by decide) ?_
            refine m_aload_n hC dX5_settle_142 2 rfl ?_
            refine m_getR (o := 18) (j := 13) (a := 29) (CN := RX5) (T := TX5) (N := 19) hC iX5_settle_5 fX5_settle_41 rfl dX5_settle_143 rfl rfl (by decide) rfl ?_
            refine m_iload_n hC dX5_settle_146 3 rfl ?_
            refine m_iconst (v := 0) hC dX5_settle_147 (by decide) ?_
            refine m_iastore (o := 29) (n := 100) hC rfl dX5_settle_148 (by omega) (by omega) (by decide) ?_
            refine m_aload_n hC dX5_settle_149 2 rfl ?_
            refine m_getR (o := 18) (j := 12) (a := 28) (CN := RX5) (T := TX5) (N := 19) hC iX5_settle_5 fX5_settle_38 rfl dX5_settle_150 rfl rfl (by decide) rfl ?_
            refine m_iload_n hC dX5_settle_153 3 rfl ?_
            refine m_iload_n hC dX5_settle_154 4 rfl ?_
            refine m_if_eq (tgt := 162) hC dX5_settle_155 (by decide) (by omega) (fun c_155 => ?_) (fun c_155 => ?_)
            · refine m_iconst (v := 0) hC dX5_settle_162 (by decide) ?_
              refine m_iastore (o := 28) (n := 100) hC rfl dX5_settle_163 (by omega) (by omega) (by decide) ?_
              refine m_iload hC dX5_settle_164 0 rfl ?_
              refine m_iretx hC hR (Or.inl rfl) dX5_settle_166 ⟨Nat.le_of_ble_eq_true rfl, Nat.le_of_ble_eq_true rfl⟩ ?_
              first | (exfalso; omega) | (refine RP_ok hcd ?_ ?_ <;> rcases hz with hz0 | hz0 <;> subst hz0 <;> (try (exfalso; omega)) <;> (try rw [hv3_55]) <;> (try rw [hv4_77]) <;> (try simp (decide := true) only [mset_mput, mput_same, mput_ne, mput_mput, q24, q25, q26, q29, q20, q21, qo 28 (by decide)]) <;> (try (simp (decide := true) only [moS, if_true, if_false, ↓reduceIte, q26, q29]; done)) <;> unfold stSett pzS moS adF thr <;> rw [hS0] <;> simp (decide := true) only [if_true, if_false, ↓reduceIte, Int.sub_eq_add_neg])
            · refine m_iconst (v := 2) hC dX5_settle_158 (by decide) ?_
              refine m_goto (tgt := 163) hC dX5_settle_159 (by decide) ?_
              refine m_iastore (o := 28) (n := 100) hC rfl dX5_settle_163 (by omega) (by omega) (by decide) ?_
              refine m_iload hC dX5_settle_164 0 rfl ?_
              refine m_iretx hC hR (Or.inl rfl) dX5_settle_166 ⟨Nat.le_of_ble_eq_true rfl, Nat.le_of_ble_eq_true rfl⟩ ?_
              first | (exfalso; omega) | (refine RP_ok hcd ?_ ?_ <;> rcases hz with hz0 | hz0 <;> subst hz0 <;> (try (exfalso; omega)) <;> (try rw [hv3_55]) <;> (try rw [hv4_77]) <;> (try simp (decide := true) only [mset_mput, mput_same, mput_ne, mput_mput, q24, q25, q26, q29, q20, q21, qo 28 (by decide)]) <;> (try (simp (decide := true) only [moS, if_true, if_false, ↓reduceIte, q26, q29]; done)) <;> unfold stSett pzS moS adF thr <;> rw [hS0] <;> simp (decide := true) only [if_true, if_false, ↓reduceIte, Int.sub_eq_add_neg])
      · exfalso; omega
  · have b_6 := bI_0 (Decidable.of_not_not c_6)
    refine m_iconst (v := 1) hC dX5_settle_9 (by decide) ?_
    refine m_goto (tgt := 28) hC dX5_settle_10 (by decide) ?_
    have hcd : cdSett S t = 1 := by unfold cdSett; first | (simp [*]; done) | (exfalso; simp_all; done)
    refine m_putI (o := 18) (j := 0) (ji := 0) (CN := RX5) (T := TX5) (N := 19) hC iX5_settle_5 fX5_settle_54 rfl dX5_settle_28 rfl rfl (by decide) rfl tyX5 tyX5_ok nmX5 rfl (by decide +kernel) rfl ?_
    refine m_aload_n hC dX5_settle_31 0 rfl ?_
    refine m_getI (o := 18) (j := 0) (ji := 0) (CN := RX5) (T := TX5) (N := 19) hC iX5_settle_5 fX5_settle_54 rfl dX5_settle_32 rfl rfl (by decide) rfl rfl ?_
    rw [mset_hit]
    refine m_if_le (tgt := 40) hC dX5_settle_35 (by decide) (by omega) (fun c_35 => ?_) (fun c_35 => ?_)
    · exfalso; omega
    · refine m_iconst (v := 0) hC dX5_settle_38 (by decide) ?_
      refine m_iretx hC hR (Or.inl rfl) dX5_settle_39 ⟨Nat.le_of_ble_eq_true rfl, Nat.le_of_ble_eq_true rfl⟩ ?_
      exact RP_bad hcd (by decide)
theorem iX5_guarantee_5 : ∀ w ∈ wsX50, w ∈ wsX5_guarantee := by decide +kernel
theorem fX5_guarantee_54 : Cond.fieldLink RX5 54 "MutualledgerModel" "thrown" "I" ∈ wsX5_guarantee := by decide +kernel
theorem fX5_guarantee_20 : Cond.fieldLink RX5 20 "MutualledgerModel" "guaranteed" "[I" ∈ wsX5_guarantee := by decide +kernel
set_option maxHeartbeats 4000000 in
set_option maxRecDepth 100000 in
theorem c_X5_guarantee {g : mG} {S : Mem} {f : Int} (hf : -2147483648 ≤ f ∧ f < 2147483648) {s : Int} (hs : -2147483648 ≤ s ∧ s < 2147483648) {a : Int} (ha : -2147483648 ≤ a ∧ a < 2147483648) (hg : RgR S) (hok : OkD (S 20)) (hgu : OkD (S 22)) (hfz : Fz (S 20) (S 21)) (l : Launch) : Does l yX5_guarantee wsX5_guarantee ({ frames := 2, cells := 0, slots := 0, locals := 46 } : Room) g [.ref (g.2.2 18), .int (z32 f), .int (z32 s), .int (z32 a)] S (PIx (fun v S' => RP S (cdGuar S f s a) (S 22 (ix f s) + a) (stGu S f s a) v S')) := by
  refine Does.of (cc := cX5_guarantee) (maxL := 6) (ret := (some .int)) (own := RX5) (by decide) rfl rfl (Nat.le_of_ble_eq_true rfl) ?_
  intro C hC hR
  show MW C g 6 (0, 0) 0 [(0, .ref (g.2.2 18)), (1, .int (z32 f)), (2, .int (z32 s)), (3, .int (z32 a))] [] S
  obtain ⟨r1, r2, r3, r4, r5, r6, r7⟩ := id hg
  refine m_aload_n hC dX5_guarantee_0 0 rfl ?_
  refine m_iload_n hC dX5_guarantee_1 1 rfl ?_
  refine m_callVi (n := 1) hC (c_X5_isShop hf hg) gX5_guarantee_X5_isShop rfl dX5_guarantee_2 rfl rfl (by decide +kernel) ⟨Nat.le_of_ble_eq_true rfl, Nat.le_of_ble_eq_true rfl⟩ rfl (Nat.le_of_ble_eq_true rfl) ⟨Nat.le_of_ble_eq_true rfl, Nat.le_of_ble_eq_true rfl⟩ rfl ?_
  refine m_if_eq (tgt := 20) hC dX5_guarantee_5 (by decide) (bI_32 _) (fun c_5 => ?_) (fun c_5 => ?_)
  · have b_5 := bI_0 c_5
    refine m_iconst (v := 0) hC dX5_guarantee_20 (by decide) ?_
    refine m_istore hC dX5_guarantee_21 (fun z9 => [(4, .int (z32 z9)), (0, .ref (g.2.2 18)), (1, .int (z32 f)), (2, .int (z32 s)), (3, .int (z32 a))]) (by decide) (fun _ => rfl) (fun v4_21 hv4_21 => ?_)
    refine m_iload_n hC dX5_guarantee_23 4 rfl ?_
    refine m_iconst (v := 1) hC dX5_guarantee_24 (by decide) ?_
    refine m_sipush (v := 500) hC dX5_guarantee_25 (by decide) ?_
    refine m_callSi (n := 3) hC (c_X5_in ha (by omega) (by omega)) gX5_guarantee_X5_in rfl dX5_guarantee_28 (by decide +kernel) ⟨Nat.le_of_ble_eq_true rfl, Nat.le_of_ble_eq_true rfl⟩ rfl (Nat.le_of_ble_eq_true rfl) ⟨Nat.le_of_ble_eq_true rfl, Nat.le_of_ble_eq_true rfl⟩ rfl ?_
    refine m_if_eq (tgt := 43) hC dX5_guarantee_31 (by decide) (bI_32 _) (fun c_31 => ?_) (fun c_31 => ?_)
    · have b_31 := bI_0 c_31
      refine m_iconst (v := 0) hC dX5_guarantee_43 (by decide) ?_
      refine m_istore hC dX5_guarantee_44 (fun z9 => [(5, .int (z32 z9)), (4, .int (z32 v4_21)), (0, .ref (g.2.2 18)), (1, .int (z32 f)), (2, .int (z32 s)), (3, .int (z32 a))]) (by decide) (fun _ => rfl) (fun v5_44 hv5_44 => ?_)
      refine m_aload_n hC dX5_guarantee_46 2 rfl ?_
      refine m_iload hC dX5_guarantee_47 1 rfl ?_
      refine m_if_ne (tgt := 56) hC dX5_guarantee_49 (by decide) (by omega) (fun c_49 => ?_) (fun c_49 => ?_)
      · exfalso; omega
      · refine m_iconst (v := 1) hC dX5_guarantee_52 (by decide) ?_
        refine m_goto (tgt := 106) hC dX5_guarantee_53 (by decide) ?_
        have hcd : cdGuar S f s a = 1 := by unfold cdGuar; first | (rw [b_5]; rfl) | (simp [*]; done) | (exfalso; simp_all; done)
        refine m_putI (o := 18) (j := 0) (ji := 0) (CN := RX5) (T := TX5) (N := 19) hC iX5_guarantee_5 fX5_guarantee_54 rfl dX5_guarantee_106 rfl rfl (by decide) rfl tyX5 tyX5_ok nmX5 rfl (by decide +kernel) rfl ?_
        refine m_aload_n hC dX5_guarantee_109 2 rfl ?_
        refine m_getI (o := 18) (j := 0) (ji := 0) (CN := RX5) (T := TX5) (N := 19) hC iX5_guarantee_5 fX5_guarantee_54 rfl dX5_guarantee_110 rfl rfl (by decide) rfl rfl ?_
        rw [mset_hit]
        refine m_if_le (tgt := 118) hC dX5_guarantee_113 (by decide) (by omega) (fun c_113 => ?_) (fun c_113 => ?_)
        · exfalso; omega
        · refine m_iconst (v := 0) hC dX5_guarantee_116 (by decide) ?_
          refine m_iretx hC hR (Or.inl rfl) dX5_guarantee_117 ⟨Nat.le_of_ble_eq_true rfl, Nat.le_of_ble_eq_true rfl⟩ ?_
          exact RP_bad hcd (by decide)
    · have b_31 := bI_1 c_31
      have a1 := of_decide_eq_true b_31
      refine m_iload_n hC dX5_guarantee_34 2 rfl ?_
      refine m_iload_n hC dX5_guarantee_35 3 rfl ?_
      refine m_icmp_eq (tgt := 43) hC dX5_guarantee_36 (by decide) (by omega) (by omega) (fun c_36 => ?_) (fun c_36 => ?_)
      · refine m_iconst (v := 0) hC dX5_guarantee_43 (by decide) ?_
        refine m_istore hC dX5_guarantee_44 (fun z9 => [(5, .int (z32 z9)), (4, .int (z32 v4_21)), (0, .ref (g.2.2 18)), (1, .int (z32 f)), (2, .int (z32 s)), (3, .int (z32 a))]) (by decide) (fun _ => rfl) (fun v5_44 hv5_44 => ?_)
        refine m_aload_n hC dX5_guarantee_46 2 rfl ?_
        refine m_iload hC dX5_guarantee_47 1 rfl ?_
        refine m_if_ne (tgt := 56) hC dX5_guarantee_49 (by decide) (by omega) (fun c_49 => ?_) (fun c_49 => ?_)
        · exfalso; omega
        · refine m_iconst (v := 1) hC dX5_guarantee_52 (by decide) ?_
          refine m_goto (tgt := 106) hC dX5_guarantee_53 (by decide) ?_
          have hcd : cdGuar S f s a = 1 := by unfold cdGuar; first | (rw [b_5]; rfl) | (simp [*]; done) | (exfalso; simp_all; done)
          refine m_putI (o := 18) (j := 0) (ji := 0) (CN := RX5) (T := TX5) (N := 19) hC iX5_guarantee_5 fX5_guarantee_54 rfl dX5_guarantee_106 rfl rfl (by decide) rfl tyX5 tyX5_ok nmX5 rfl (by decide +kernel) rfl ?_
          refine m_aload_n hC dX5_guarantee_109 2 rfl ?_
          refine m_getI (o := 18) (j := 0) (ji := 0) (CN := RX5) (T := TX5) (N := 19) hC iX5_guarantee_5 fX5_guarantee_54 rfl dX5_guarantee_110 rfl rfl (by decide) rfl rfl ?_
          rw [mset_hit]
          refine m_if_le (tgt := 118) hC dX5_guarantee_113 (by decide) (by omega) (fun c_113 => ?_) (fun c_113 => ?_)
          · exfalso; omega
          · refine m_iconst (v := 0) hC dX5_guarantee_116 (by decide) ?_
            refine m_iretx hC hR (Or.inl rfl) dX5_guarantee_117 ⟨Nat.le_of_ble_eq_true rfl, Nat.le_of_ble_eq_true rfl⟩ ?_
            exact RP_bad hcd (by decide)
      · refine m_iconst (v := 1) hC dX5_guarantee_39 (by decide) ?_
        refine m_goto (tgt := 44) hC dX5_guarantee_40 (by decide) ?_
        refine m_istore hC dX5_guarantee_44 (fun z9 => [(5, .int (z32 z9)), (4, .int (z32 v4_21)), (0, .ref (g.2.2 18)), (1, .int (z32 f)), (2, .int (z32 s)), (3, .int (z32 a))]) (by decide) (fun _ => rfl) (fun v5_44 hv5_44 => ?_)
        refine m_aload_n hC dX5_guarantee_46 2 rfl ?_
        refine m_iload hC dX5_guarantee_47 1 rfl ?_
        refine m_if_ne (tgt := 56) hC dX5_guarantee_49 (by decide) (by omega) (fun c_49 => ?_) (fun c_49 => ?_)
        · exfalso; omega
        · refine m_iconst (v := 1) hC dX5_guarantee_52 (by decide) ?_
          refine m_goto (tgt := 106) hC dX5_guarantee_53 (by decide) ?_
          have hcd : cdGuar S f s a = 1 := by unfold cdGuar; first | (rw [b_5]; rfl) | (simp [*]; done) | (exfalso; simp_all; done)
          refine m_putI (o := 18) (j := 0) (ji := 0) (CN := RX5) (T := TX5) (N := 19) hC iX5_guarantee_5 fX5_guarantee_54 rfl dX5_guarantee_106 rfl rfl (by decide) rfl tyX5 tyX5_ok nmX5 rfl (by decide +kernel) rfl ?_
          refine m_aload_n hC dX5_guarantee_109 2 rfl ?_
          refine m_getI (o := 18) (j := 0) (ji := 0) (CN := RX5) (T := TX5) (N := 19) hC iX5_guarantee_5 fX5_guarantee_54 rfl dX5_guarantee_110 rfl rfl (by decide) rfl rfl ?_
          rw [mset_hit]
          refine m_if_le (tgt := 118) hC dX5_guarantee_113 (by decide) (by omega) (fun c_113 => ?_) (fun c_113 => ?_)
          · exfalso; omega
          · refine m_iconst (v := 0) hC dX5_guarantee_116 (by decide) ?_
            refine m_iretx hC hR (Or.inl rfl) dX5_guarantee_117 ⟨Nat.le_of_ble_eq_true rfl, Nat.le_of_ble_eq_true rfl⟩ ?_
            exact RP_bad hcd (by decide)
  · have b_5 := bI_1 c_5
    have l1 := livR_in b_5 hg
    refine m_aload_n hC dX5_guarantee_8 0 rfl ?_
    refine m_iload_n hC dX5_guarantee_9 2 rfl ?_
    refine m_callVi (n := 1) hC (c_X5_isShop hs hg) gX5_guarantee_X5_isShop rfl dX5_guarantee_10 rfl rfl (by decide +kernel) ⟨Nat.le_of_ble_eq_true rfl, Nat.le_of_ble_eq_true rfl⟩ rfl (Nat.le_of_ble_eq_true rfl) ⟨Nat.le_of_ble_eq_true rfl, Nat.le_of_ble_eq_true rfl⟩ rfl ?_
    refine m_if_eq (tgt := 20) hC dX5_guarantee_13 (by decide) (bI_32 _) (fun c_13 => ?_) (fun c_13 => ?_)
    · have b_13 := bI_0 c_13
      refine m_iconst (v := 0) hC dX5_guarantee_20 (by decide) ?_
      refine m_istore hC dX5_guarantee_21 (fun z9 => [(4, .int (z32 z9)), (0, .ref (g.2.2 18)), (1, .int (z32 f)), (2, .int (z32 s)), (3, .int (z32 a))]) (by decide) (fun _ => rfl) (fun v4_21 hv4_21 => ?_)
      refine m_iload_n hC dX5_guarantee_23 4 rfl ?_
      refine m_iconst (v := 1) hC dX5_guarantee_24 (by decide) ?_
      refine m_sipush (v := 500) hC dX5_guarantee_25 (by decide) ?_
      refine m_callSi (n := 3) hC (c_X5_in ha (by omega) (by omega)) gX5_guarantee_X5_in rfl dX5_guarantee_28 (by decide +kernel) ⟨Nat.le_of_ble_eq_true rfl, Nat.le_of_ble_eq_true rfl⟩ rfl (Nat.le_of_ble_eq_true rfl) ⟨Nat.le_of_ble_eq_true rfl, Nat.le_of_ble_eq_true rfl⟩ rfl ?_
      refine m_if_eq (tgt := 43) hC dX5_guarantee_31 (by decide) (bI_32 _) (fun c_31 => ?_) (fun c_31 => ?_)
      · have b_31 := bI_0 c_31
        refine m_iconst (v := 0) hC dX5_guarantee_43 (by decide) ?_
        refine m_istore hC dX5_guarantee_44 (fun z9 => [(5, .int (z32 z9)), (4, .int (z32 v4_21)), (0, .ref (g.2.2 18)), (1, .int (z32 f)), (2, .int (z32 s)), (3, .int (z32 a))]) (by decide) (fun _ => rfl) (fun v5_44 hv5_44 => ?_)
        refine m_aload_n hC dX5_guarantee_46 2 rfl ?_
        refine m_iload hC dX5_guarantee_47 1 rfl ?_
        refine m_if_ne (tgt := 56) hC dX5_guarantee_49 (by decide) (by omega) (fun c_49 => ?_) (fun c_49 => ?_)
        · exfalso; omega
        · refine m_iconst (v := 1) hC dX5_guarantee_52 (by decide) ?_
          refine m_goto (tgt := 106) hC dX5_guarantee_53 (by decide) ?_
          have hcd : cdGuar S f s a = 1 := by unfold cdGuar; first | (rw [b_5]; rfl) | (simp [*]; done) | (exfalso; simp_all; done)
          refine m_putI (o := 18) (j := 0) (ji := 0) (CN := RX5) (T := TX5) (N := 19) hC iX5_guarantee_5 fX5_guarantee_54 rfl dX5_guarantee_106 rfl rfl (by decide) rfl tyX5 tyX5_ok nmX5 rfl (by decide +kernel) rfl ?_
          refine m_aload_n hC dX5_guarantee_109 2 rfl ?_
          refine m_getI (o := 18) (j := 0) (ji := 0) (CN := RX5) (T := TX5) (N := 19) hC iX5_guarantee_5 fX5_guarantee_54 rfl dX5_guarantee_110 rfl rfl (by decide) rfl rfl ?_
          rw [mset_hit]
          refine m_if_le (tgt := 118) hC dX5_guarantee_113 (by decide) (by omega) (fun c_113 => ?_) (fun c_113 => ?_)
          · exfalso; omega
          · refine m_iconst (v := 0) hC dX5_guarantee_116 (by decide) ?_
            refine m_iretx hC hR (Or.inl rfl) dX5_guarantee_117 ⟨Nat.le_of_ble_eq_true rfl, Nat.le_of_ble_eq_true rfl⟩ ?_
            exact RP_bad hcd (by decide)
      · have b_31 := bI_1 c_31
        have a1 := of_decide_eq_true b_31
        refine m_iload_n hC dX5_guarantee_34 2 rfl ?_
        refine m_iload_n hC dX5_guarantee_35 3 rfl ?_
        refine m_icmp_eq (tgt := 43) hC dX5_guarantee_36 (by decide) (by omega) (by omega) (fun c_36 => ?_) (fun c_36 => ?_)
        · refine m_iconst (v := 0) hC dX5_guarantee_43 (by decide) ?_
          refine m_istore hC dX5_guarantee_44 (fun z9 => [(5, .int (z32 z9)), (4, .int (z32 v4_21)), (0, .ref (g.2.2 18)), (1, .int (z32 f)), (2, .int (z32 s)), (3, .int (z32 a))]) (by decide) (fun _ => rfl) (fun v5_44 hv5_44 => ?_)
          refine m_aload_n hC dX5_guarantee_46 2 rfl ?_
          refine m_iload hC dX5_guarantee_47 1 rfl ?_
          refine m_if_ne (tgt := 56) hC dX5_guarantee_49 (by decide) (by omega) (fun c_49 => ?_) (fun c_49 => ?_)
          · exfalso; omega
          · refine m_iconst (v := 1) hC dX5_guarantee_52 (by decide) ?_
            refine m_goto (tgt := 106) hC dX5_guarantee_53 (by decide) ?_
            have hcd : cdGuar S f s a = 1 := by unfold cdGuar; first | (rw [b_5]; rfl) | (simp [*]; done) | (exfalso; simp_all; done)
            refine m_putI (o := 18) (j := 0) (ji := 0) (CN := RX5) (T := TX5) (N := 19) hC iX5_guarantee_5 fX5_guarantee_54 rfl dX5_guarantee_106 rfl rfl (by decide) rfl tyX5 tyX5_ok nmX5 rfl (by decide +kernel) rfl ?_
            refine m_aload_n hC dX5_guarantee_109 2 rfl ?_
            refine m_getI (o := 18) (j := 0) (ji := 0) (CN := RX5) (T := TX5) (N := 19) hC iX5_guarantee_5 fX5_guarantee_54 rfl dX5_guarantee_110 rfl rfl (by decide) rfl rfl ?_
            rw [mset_hit]
            refine m_if_le (tgt := 118) hC dX5_guarantee_113 (by decide) (by omega) (fun c_113 => ?_) (fun c_113 => ?_)
            · exfalso; omega
            · refine m_iconst (v := 0) hC dX5_guarantee_116 (by decide) ?_
              refine m_iretx hC hR (Or.inl rfl) dX5_guarantee_117 ⟨Nat.le_of_ble_eq_true rfl, Nat.le_of_ble_eq_true rfl⟩ ?_
              exact RP_bad hcd (by decide)
        · refine m_iconst (v := 1) hC dX5_guarantee_39 (by decide) ?_
          refine m_goto (tgt := 44) hC dX5_guarantee_40 (by decide) ?_
          refine m_istore hC dX5_guarantee_44 (fun z9 => [(5, .int (z32 z9)), (4, .int (z32 v4_21)), (0, .ref (g.2.2 18)), (1, .int (z32 f)), (2, .int (z32 s)), (3, .int (z32 a))]) (by decide) (fun _ => rfl) (fun v5_44 hv5_44 => ?_)
          refine m_aload_n hC dX5_guarantee_46 2 rfl ?_
          refine m_iload hC dX5_guarantee_47 1 rfl ?_
          refine m_if_ne (tgt := 56) hC dX5_guarantee_49 (by decide) (by omega) (fun c_49 => ?_) (fun c_49 => ?_)
          · exfalso; omega
          · refine m_iconst (v := 1) hC dX5_guarantee_52 (by decide) ?_
            refine m_goto (tgt := 106) hC dX5_guarantee_53 (by decide) ?_
            have hcd : cdGuar S f s a = 1 := by unfold cdGuar; first | (rw [b_5]; rfl) | (simp [*]; done) | (exfalso; simp_all; done)
            refine m_putI (o := 18) (j := 0) (ji := 0) (CN := RX5) (T := TX5) (N := 19) hC iX5_guarantee_5 fX5_guarantee_54 rfl dX5_guarantee_106 rfl rfl (by decide) rfl tyX5 tyX5_ok nmX5 rfl (by decide +kernel) rfl ?_
            refine m_aload_n hC dX5_guarantee_109 2 rfl ?_
            refine m_getI (o := 18) (j := 0) (ji := 0) (CN := RX5) (T := TX5) (N := 19) hC iX5_guarantee_5 fX5_guarantee_54 rfl dX5_guarantee_110 rfl rfl (by decide) rfl rfl ?_
            rw [mset_hit]
            refine m_if_le (tgt := 118) hC dX5_guarantee_113 (by decide) (by omega) (fun c_113 => ?_) (fun c_113 => ?_)
            · exfalso; omega
            · refine m_iconst (v := 0) hC dX5_guarantee_116 (by decide) ?_
              refine m_iretx hC hR (Or.inl rfl) dX5_guarantee_117 ⟨Nat.le_of_ble_eq_true rfl, Nat.le_of_ble_eq_true rfl⟩ ?_
              exact RP_bad hcd (by decide)
    · have b_13 := bI_1 c_13
      have l2 := livR_in b_13 hg
      refine m_iconst (v := 1) hC dX5_guarantee_16 (by decide) ?_
      refine m_goto (tgt := 21) hC dX5_guarantee_17 (by decide) ?_
      refine m_istore hC dX5_guarantee_21 (fun z9 => [(4, .int (z32 z9)), (0, .ref (g.2.2 18)), (1, .int (z32 f)), (2, .int (z32 s)), (3, .int (z32 a))]) (by decide) (fun _ => rfl) (fun v4_21 hv4_21 => ?_)
      refine m_iload_n hC dX5_guarantee_23 4 rfl ?_
      refine m_iconst (v := 1) hC dX5_guarantee_24 (by decide) ?_
      refine m_sipush (v := 500) hC dX5_guarantee_25 (by decide) ?_
      refine m_callSi (n := 3) hC (c_X5_in ha (by omega) (by omega)) gX5_guarantee_X5_in rfl dX5_guarantee_28 (by decide +kernel) ⟨Nat.le_of_ble_eq_true rfl, Nat.le_of_ble_eq_true rfl⟩ rfl (Nat.le_of_ble_eq_true rfl) ⟨Nat.le_of_ble_eq_true rfl, Nat.le_of_ble_eq_true rfl⟩ rfl ?_
      refine m_if_eq (tgt := 43) hC dX5_guarantee_31 (by decide) (bI_32 _) (fun c_31 => ?_) (fun c_31 => ?_)
      · have b_31 := bI_0 c_31
        refine m_iconst (v := 0) hC dX5_guarantee_43 (by decide) ?_
        refine m_istore hC dX5_guarantee_44 (fun z9 => [(5, .int (z32 z9)), (4, .int (z32 v4_21)), (0, .ref (g.2.2 18)), (1, .int (z32 f)), (2, .int (z32 s)), (3, .int (z32 a))]) (by decide) (fun _ => rfl) (fun v5_44 hv5_44 => ?_)
        refine m_aload_n hC dX5_guarantee_46 2 rfl ?_
        refine m_iload hC dX5_guarantee_47 1 rfl ?_
        refine m_if_ne (tgt := 56) hC dX5_guarantee_49 (by decide) (by omega) (fun c_49 => ?_) (fun c_49 => ?_)
        · refine m_iload hC dX5_guarantee_56 0 rfl ?_
          refine m_if_ne (tgt := 65) hC dX5_guarantee_58 (by decide) (by omega) (fun c_58 => ?_) (fun c_58 => ?_)
          · exfalso; omega
          · refine m_iconst (v := 2) hC dX5_guarantee_61 (by decide) ?_
            refine m_goto (tgt := 106) hC dX5_guarantee_62 (by decide) ?_
            have hcd : cdGuar S f s a = 2 := by unfold cdGuar; first | (rw [b_5]; rfl) | (simp [*]; done) | (exfalso; simp_all; done)
            refine m_putI (o := 18) (j := 0) (ji := 0) (CN := RX5) (T := TX5) (N := 19) hC iX5_guarantee_5 fX5_guarantee_54 rfl dX5_guarantee_106 rfl rfl (by decide) rfl tyX5 tyX5_ok nmX5 rfl (by decide +kernel) rfl ?_
            refine m_aload_n hC dX5_guarantee_109 2 rfl ?_
            refine m_getI (o := 18) (j := 0) (ji := 0) (CN := RX5) (T := TX5) (N := 19) hC iX5_guarantee_5 fX5_guarantee_54 rfl dX5_guarantee_110 rfl rfl (by decide) rfl rfl ?_
            rw [mset_hit]
            refine m_if_le (tgt := 118) hC dX5_guarantee_113 (by decide) (by omega) (fun c_113 => ?_) (fun c_113 => ?_)
            · exfalso; omega
            · refine m_iconst (v := 0) hC dX5_guarantee_116 (by decide) ?_
              refine m_iretx hC hR (Or.inl rfl) dX5_guarantee_117 ⟨Nat.le_of_ble_eq_true rfl, Nat.le_of_ble_eq_true rfl⟩ ?_
              exact RP_bad hcd (by decide)
        · exfalso; omega
      · have b_31 := bI_1 c_31
        have a1 := of_decide_eq_true b_31
        refine m_iload_n hC dX5_guarantee_34 2 rfl ?_
        refine m_iload_n hC dX5_guarantee_35 3 rfl ?_
        refine m_icmp_eq (tgt := 43) hC dX5_guarantee_36 (by decide) (by omega) (by omega) (fun c_36 => ?_) (fun c_36 => ?_)
        · refine m_iconst (v := 0) hC dX5_guarantee_43 (by decide) ?_
          refine m_istore hC dX5_guarantee_44 (fun z9 => [(5, .int (z32 z9)), (4, .int (z32 v4_21)), (0, .ref (g.2.2 18)), (1, .int (z32 f)), (2, .int (z32 s)), (3, .int (z32 a))]) (by decide) (fun _ => rfl) (fun v5_44 hv5_44 => ?_)
          refine m_aload_n hC dX5_guarantee_46 2 rfl ?_
          refine m_iload hC dX5_guarantee_47 1 rfl ?_
          refine m_if_ne (tgt := 56) hC dX5_guarantee_49 (by decide) (by omega) (fun c_49 => ?_) (fun c_49 => ?_)
          · refine m_iload hC dX5_guarantee_56 0 rfl ?_
            refine m_if_ne (tgt := 65) hC dX5_guarantee_58 (by decide) (by omega) (fun c_58 => ?_) (fun c_58 => ?_)
            · exfalso; omega
            · refine m_iconst (v := 2) hC dX5_guarantee_61 (by decide) ?_
              refine m_goto (tgt := 106) hC dX5_guarantee_62 (by decide) ?_
              have hcd : cdGuar S f s a = 2 := by unfold cdGuar; first | (rw [b_5]; rfl) | (simp [*]; done) | (exfalso; simp_all; done)
              refine m_putI (o := 18) (j := 0) (ji := 0) (CN := RX5) (T := TX5) (N := 19) hC iX5_guarantee_5 fX5_guarantee_54 rfl dX5_guarantee_106 rfl rfl (by decide) rfl tyX5 tyX5_ok nmX5 rfl (by decide +kernel) rfl ?_
              refine m_aload_n hC dX5_guarantee_109 2 rfl ?_
              refine m_getI (o := 18) (j := 0) (ji := 0) (CN := RX5) (T := TX5) (N := 19) hC iX5_guarantee_5 fX5_guarantee_54 rfl dX5_guarantee_110 rfl rfl (by decide) rfl rfl ?_
              rw [mset_hit]
              refine m_if_le (tgt := 118) hC dX5_guarantee_113 (by decide) (by omega) (fun c_113 => ?_) (fun c_113 => ?_)
              · exfalso; omega
              · refine m_iconst (v := 0) hC dX5_guarantee_116 (by decide) ?_
                refine m_iretx hC hR (Or.inl rfl) dX5_guarantee_117 ⟨Nat.le_of_ble_eq_true rfl, Nat.le_of_ble_eq_true rfl⟩ ?_
                exact RP_bad hcd (by decide)
          · exfalso; omega
        · refine m_iconst (v := 1) hC dX5_guarantee_39 (by decide) ?_
          refine m_goto (tgt := 44) hC dX5_guarantee_40 (by decide) ?_
          refine m_istore hC dX5_guarantee_44 (fun z9 => [(5, .int (z32 z9)), (4, .int (z32 v4_21)), (0, .ref (g.2.2 18)), (1, .int (z32 f)), (2, .int (z32 s)), (3, .int (z32 a))]) (by decide) (fun _ => rfl) (fun v5_44 hv5_44 => ?_)
          refine m_aload_n hC dX5_guarantee_46 2 rfl ?_
          refine m_iload hC dX5_guarantee_47 1 rfl ?_
          refine m_if_ne (tgt := 56) hC dX5_guarantee_49 (by decide) (by omega) (fun c_49 => ?_) (fun c_49 => ?_)
          · refine m_iload hC dX5_guarantee_56 0 rfl ?_
            refine m_if_ne (tgt := 65) hC dX5_guarantee_58 (by decide) (by omega) (fun c_58 => ?_) (fun c_58 => ?_)
            · have hbl := hok.1.bl (x := f) (by omega)
              have hlr := limR_rng hg hgu.1 (s := f) (by omega)
              have hgf := hgu.1.ent (i := f) (j := s) (by omega) (by omega)
              refine m_aload_n hC dX5_guarantee_65 2 rfl ?_
              refine m_getR (o := 18) (j := 5) (a := 22) (CN := RX5) (T := TX5) (N := 19) hC iX5_guarantee_5 fX5_guarantee_20 rfl dX5_guarantee_66 rfl rfl (by decide) rfl ?_
              refine m_iload_n hC dX5_guarantee_69 3 rfl ?_
              refine m_iload_n hC dX5_guarantee_70 4 rfl ?_
              refine m_callSi (n := 2) hC (c_X5_at) gX5_guarantee_X5_at rfl dX5_guarantee_71 (by decide +kernel) ⟨Nat.le_of_ble_eq_true rfl, Nat.le_of_ble_eq_true rfl⟩ rfl (Nat.le_of_ble_eq_true rfl) ⟨Nat.le_of_ble_eq_true rfl, Nat.le_of_ble_eq_true rfl⟩ rfl ?_
              refine m_iaload (o := 22) (n := 81) hC rfl dX5_guarantee_74 (ix_lo (by omega) (by omega)) (ix_hi (by omega) (by omega)) (by decide) ?_
              refine m_iload_n hC dX5_guarantee_75 5 rfl ?_
              refine m_iadd hC dX5_guarantee_76 ?_
              refine m_sipush (v := 1000) hC dX5_guarantee_77 (by decide) ?_
              refine m_icmp_gt (tgt := 101) hC dX5_guarantee_80 (by decide) (by omega) (by omega) (fun c_80 => ?_) (fun c_80 => ?_)
              · refine m_iconst (v := 3) hC dX5_guarantee_101 (by decide) ?_
                refine m_goto (tgt := 106) hC dX5_guarantee_102 (by decide) ?_
                have hcd : cdGuar S f s a = 3 := by unfold cdGuar; first | (rw [b_5]; rfl) | (simp [*]; done) | (exfalso; simp_all; done)
                refine m_putI (o := 18) (j := 0) (ji := 0) (CN := RX5) (T := TX5) (N := 19) hC iX5_guarantee_5 fX5_guarantee_54 rfl dX5_guarantee_106 rfl rfl (by decide) rfl tyX5 tyX5_ok nmX5 rfl (by decide +kernel) rfl ?_
                refine m_aload_n hC dX5_guarantee_109 2 rfl ?_
                refine m_getI (o := 18) (j := 0) (ji := 0) (CN := RX5) (T := TX5) (N := 19) hC iX5_guarantee_5 fX5_guarantee_54 rfl dX5_guarantee_110 rfl rfl (by decide) rfl rfl ?_
                rw [mset_hit]
                refine m_if_le (tgt := 118) hC dX5_guarantee_113 (by decide) (by omega) (fun c_113 => ?_) (fun c_113 => ?_)
                · exfalso; omega
                · refine m_iconst (v := 0) hC dX5_guarantee_116 (by decide) ?_
                  refine m_iretx hC hR (Or.inl rfl) dX5_guarantee_117 ⟨Nat.le_of_ble_eq_true rfl, Nat.le_of_ble_eq_true rfl⟩ ?_
                  exact RP_bad hcd (by decide)
              · refine m_aload_n hC dX5_guarantee_83 2 rfl ?_
                refine m_iload_n hC dX5_guarantee_84 3 rfl ?_
                refine m_callVi (n := 1) hC (c_X5_balanceOf (by omega)) gX5_guarantee_X5_balanceOf rfl dX5_guarantee_85 rfl rfl (by decide +kernel) ⟨Nat.le_of_ble_eq_true rfl, Nat.le_of_ble_eq_true rfl⟩ rfl (Nat.le_of_ble_eq_true rfl) ⟨Nat.le_of_ble_eq_true rfl, Nat.le_of_ble_eq_true rfl⟩ rfl ?_
                refine m_aload_n hC dX5_guarantee_88 2 rfl ?_
                refine m_iload_n hC dX5_guarantee_89 3 rfl ?_
                refine m_callVi (n := 1) hC (c_X5_limitOf (by omega) hg) gX5_guarantee_X5_limitOf rfl dX5_guarantee_90 rfl rfl (by decide +kernel) ⟨Nat.le_of_ble_eq_true rfl, Nat.le_of_ble_eq_true rfl⟩ rfl (Nat.le_of_ble_eq_true rfl) ⟨Nat.le_of_ble_eq_true rfl, Nat.le_of_ble_eq_true rfl⟩ rfl ?_
                refine m_iload_n hC dX5_guarantee_93 5 rfl ?_
                refine m_isub hC dX5_guarantee_94 ?_
                refine m_callSi (n := 2) hC (c_X5_isBelow (by omega)) gX5_guarantee_X5_isBelow rfl dX5_guarantee_95 (by decide +kernel) ⟨Nat.le_of_ble_eq_true rfl, Nat.le_of_ble_eq_true rfl⟩ rfl (Nat.le_of_ble_eq_true rfl) ⟨Nat.le_of_ble_eq_true rfl, Nat.le_of_ble_eq_true rfl⟩ rfl ?_
                refine m_if_eq (tgt := 105) hC dX5_guarantee_98 (by decide) (bI_32 _) (fun c_98 => ?_) (fun c_98 => ?_)
                · have b_98 := bI_0 c_98
                  refine m_iconst (v := 0) hC dX5_guarantee_105 (by decide) ?_
                  have hcd : cdGuar S f s a = 0 := by unfold cdGuar; first | (rw [b_5]; rfl) | (simp [*]; done) | (exfalso; simp_all; done)
                  refine m_putI (o := 18) (j := 0) (ji := 0) (CN := RX5) (T := TX5) (N := 19) hC iX5_guarantee_5 fX5_guarantee_54 rfl dX5_guarantee_106 rfl rfl (by decide) rfl tyX5 tyX5_ok nmX5 rfl (by decide +kernel) rfl ?_
                  refine m_aload_n hC dX5_guarantee_109 2 rfl ?_
                  refine m_getI (o := 18) (j := 0) (ji := 0) (CN := RX5) (T := TX5) (N := 19) hC iX5_guarantee_5 fX5_guarantee_54 rfl dX5_guarantee_110 rfl rfl (by decide) rfl rfl ?_
                  rw [mset_hit]
                  refine m_if_le (tgt := 118) hC dX5_guarantee_113 (by decide) (by omega) (fun c_113 => ?_) (fun c_113 => ?_)
                  · obtain ⟨S0, hS0, hg0, q1, q7, q14, q15, q16, qo⟩ := thr0 S hg
                    rw [← hS0]
                    have q22 := qo 22 (by decide)
                    refine m_aload_n hC dX5_guarantee_118 2 rfl ?_
                    refine m_getR (o := 18) (j := 5) (a := 22) (CN := RX5) (T := TX5) (N := 19) hC iX5_guarantee_5 fX5_guarantee_20 rfl dX5_guarantee_119 rfl rfl (by decide) rfl ?_
                    refine m_iload_n hC dX5_guarantee_122 3 rfl ?_
                    refine m_iload_n hC dX5_guarantee_123 4 rfl ?_
                    refine m_callSi (n := 2) hC (c_X5_at) gX5_guarantee_X5_at rfl dX5_guarantee_124 (by decide +kernel) ⟨Nat.le_of_ble_eq_true rfl, Nat.le_of_ble_eq_true rfl⟩ rfl (Nat.le_of_ble_eq_true rfl) ⟨Nat.le_of_ble_eq_true rfl, Nat.le_of_ble_eq_true rfl⟩ rfl ?_
                    refine m_dup2 hC dX5_guarantee_127 rfl rfl ?_
                    refine m_iaload (o := 22) (n := 81) hC rfl dX5_guarantee_128 (ix_lo (by omega) (by omega)) (ix_hi (by omega) (by omega)) (by decide) ?_
                    refine m_iload_n hC dX5_guarantee_129 5 rfl ?_
                    refine m_iadd hC dX5_guarantee_130 ?_
                    refine m_iastore (o := 22) (n := 81) hC rfl dX5_guarantee_131 (ix_lo (by omega) (by omega)) (ix_hi (by omega) (by omega)) (by decide) ?_
                    refine m_aload_n hC dX5_guarantee_132 2 rfl ?_
                    refine m_getR (o := 18) (j := 5) (a := 22) (CN := RX5) (T := TX5) (N := 19) hC iX5_guarantee_5 fX5_guarantee_20 rfl dX5_guarantee_133 rfl rfl (by decide) rfl ?_
                    refine m_iload_n hC dX5_guarantee_136 3 rfl ?_
                    refine m_iload_n hC dX5_guarantee_137 4 rfl ?_
                    refine m_callSi (n := 2) hC (c_X5_at) gX5_guarantee_X5_at rfl dX5_guarantee_138 (by decide +kernel) ⟨Nat.le_of_ble_eq_true rfl, Nat.le_of_ble_eq_true rfl⟩ rfl (Nat.le_of_ble_eq_true rfl) ⟨Nat.le_of_ble_eq_true rfl, Nat.le_of_ble_eq_true rfl⟩ rfl ?_
                    refine m_iaload (o := 22) (n := 81) hC rfl dX5_guarantee_141 (ix_lo (by omega) (by omega)) (ix_hi (by omega) (by omega)) (by decide) ?_
                    refine m_iretx hC hR (Or.inl rfl) dX5_guarantee_142 ⟨Nat.le_of_ble_eq_true rfl, Nat.le_of_ble_eq_true rfl⟩ ?_
                    refine RP_ok hcd ?_ ?_
                    · first | (rw [mset_hit, q22]; done) | (rw [mset_hit, q22]; omega)
                    · rw [mset_mput, q22, hS0]; unfold stGu adF thr; first | rfl | (rw [Int.sub_eq_add_neg]; done) | (rw [Int.sub_eq_add_neg]; rfl)
                  · exfalso; omega
                · have b_98 := bI_1 c_98
                  refine m_iconst (v := 3) hC dX5_guarantee_101 (by decide) ?_
                  refine m_goto (tgt := 106) hC dX5_guarantee_102 (by decide) ?_
                  have hcd : cdGuar S f s a = 3 := by unfold cdGuar; first | (rw [b_5]; rfl) | (simp [*]; done) | (exfalso; simp_all; done)
                  refine m_putI (o := 18) (j := 0) (ji := 0) (CN := RX5) (T := TX5) (N := 19) hC iX5_guarantee_5 fX5_guarantee_54 rfl dX5_guarantee_106 rfl rfl (by decide) rfl tyX5 tyX5_ok nmX5 rfl (by decide +kernel) rfl ?_
                  refine m_aload_n hC dX5_guarantee_109 2 rfl ?_
                  refine m_getI (o := 18) (j := 0) (ji := 0) (CN := RX5) (T := TX5) (N := 19) hC iX5_guarantee_5 fX5_guarantee_54 rfl dX5_guarantee_110 rfl rfl (by decide) rfl rfl ?_
                  rw [mset_hit]
                  refine m_if_le (tgt := 118) hC dX5_guarantee_113 (by decide) (by omega) (fun c_113 => ?_) (fun c_113 => ?_)
                  · exfalso; omega
                  · refine m_iconst (v := 0) hC dX5_guarantee_116 (by decide) ?_
                    refine m_iretx hC hR (Or.inl rfl) dX5_guarantee_117 ⟨Nat.le_of_ble_eq_true rfl, Nat.le_of_ble_eq_true rfl⟩ ?_
                    exact RP_bad hcd (by decide)
            · exfalso; omega
          · exfalso; omega
theorem iX5_revoke_5 : ∀ w ∈ wsX50, w ∈ wsX5_revoke := by decide +kernel
theorem fX5_revoke_54 : Cond.fieldLink RX5 54 "MutualledgerModel" "thrown" "I" ∈ wsX5_revoke := by decide +kernel
theorem fX5_revoke_20 : Cond.fieldLink RX5 20 "MutualledgerModel" "guaranteed" "[I" ∈ wsX5_revoke := by decide +kernel
set_option maxHeartbeats 4000000 in
set_option maxRecDepth 100000 in
theorem c_X5_revoke {g : mG} {S : Mem} {f : Int} (hf : -2147483648 ≤ f ∧ f < 2147483648) {s : Int} (hs : -2147483648 ≤ s ∧ s < 2147483648) {a : Int} (ha : -2147483648 ≤ a ∧ a < 2147483648) (hg : RgR S) (hok : OkD (S 20)) (hgu : OkD (S 22)) (hfz : Fz (S 20) (S 21)) (l : Launch) : Does l yX5_revoke wsX5_revoke ({ frames := 2, cells := 0, slots := 0, locals := 46 } : Room) g [.ref (g.2.2 18), .int (z32 f), .int (z32 s), .int (z32 a)] S (PIx (fun v S' => RP S (cdRevo S f s a) (S 22 (ix f s) + (-a)) (stGu S f s (-a)) v S')) := by
  refine Does.of (cc := cX5_revoke) (maxL := 6) (ret := (some .int)) (own := RX5) (by decide) rfl rfl (Nat.le_of_ble_eq_true rfl) ?_
  intro C hC hR
  show MW C g 6 (0, 0) 0 [(0, .ref (g.2.2 18)), (1, .int (z32 f)), (2, .int (z32 s)), (3, .int (z32 a))] [] S
  obtain ⟨r1, r2, r3, r4, r5, r6, r7⟩ := id hg
  refine m_aload_n hC dX5_revoke_0 0 rfl ?_
  refine m_iload_n hC dX5_revoke_1 1 rfl ?_
  refine m_callVi (n := 1) hC (c_X5_isShop hf hg) gX5_revoke_X5_isShop rfl dX5_revoke_2 rfl rfl (by decide +kernel) ⟨Nat.le_of_ble_eq_true rfl, Nat.le_of_ble_eq_true rfl⟩ rfl (Nat.le_of_ble_eq_true rfl) ⟨Nat.le_of_ble_eq_true rfl, Nat.le_of_ble_eq_true rfl⟩ rfl ?_
  refine m_if_eq (tgt := 20) hC dX5_revoke_5 (by decide) (bI_32 _) (fun c_5 => ?_) (fun c_5 => ?_)
  · have b_5 := bI_0 c_5
    refine m_iconst (v := 0) hC dX5_revoke_20 (by decide) ?_
    refine m_istore hC dX5_revoke_21 (fun z9 => [(4, .int (z32 z9)), (0, .ref (g.2.2 18)), (1, .int (z32 f)), (2, .int (z32 s)), (3, .int (z32 a))]) (by decide) (fun _ => rfl) (fun v4_21 hv4_21 => ?_)
    refine m_iload_n hC dX5_revoke_23 4 rfl ?_
    refine m_iconst (v := 1) hC dX5_revoke_24 (by decide) ?_
    refine m_sipush (v := 500) hC dX5_revoke_25 (by decide) ?_
    refine m_callSi (n := 3) hC (c_X5_in ha (by omega) (by omega)) gX5_revoke_X5_in rfl dX5_revoke_28 (by decide +kernel) ⟨Nat.le_of_ble_eq_true rfl, Nat.le_of_ble_eq_true rfl⟩ rfl (Nat.le_of_ble_eq_true rfl) ⟨Nat.le_of_ble_eq_true rfl, Nat.le_of_ble_eq_true rfl⟩ rfl ?_
    refine m_if_eq (tgt := 43) hC dX5_revoke_31 (by decide) (bI_32 _) (fun c_31 => ?_) (fun c_31 => ?_)
    · have b_31 := bI_0 c_31
      refine m_iconst (v := 0) hC dX5_revoke_43 (by decide) ?_
      refine m_istore hC dX5_revoke_44 (fun z9 => [(5, .int (z32 z9)), (4, .int (z32 v4_21)), (0, .ref (g.2.2 18)), (1, .int (z32 f)), (2, .int (z32 s)), (3, .int (z32 a))]) (by decide) (fun _ => rfl) (fun v5_44 hv5_44 => ?_)
      refine m_aload_n hC dX5_revoke_46 2 rfl ?_
      refine m_iload hC dX5_revoke_47 1 rfl ?_
      refine m_if_ne (tgt := 56) hC dX5_revoke_49 (by decide) (by omega) (fun c_49 => ?_) (fun c_49 => ?_)
      · exfalso; omega
      · refine m_iconst (v := 1) hC dX5_revoke_52 (by decide) ?_
        refine m_goto (tgt := 102) hC dX5_revoke_53 (by decide) ?_
        have hcd : cdRevo S f s a = 1 := by unfold cdRevo; first | (rw [b_5]; rfl) | (simp [*]; done) | (exfalso; simp_all; done)
        refine m_putI (o := 18) (j := 0) (ji := 0) (CN := RX5) (T := TX5) (N := 19) hC iX5_revoke_5 fX5_revoke_54 rfl dX5_revoke_102 rfl rfl (by decide) rfl tyX5 tyX5_ok nmX5 rfl (by decide +kernel) rfl ?_
        refine m_aload_n hC dX5_revoke_105 2 rfl ?_
        refine m_getI (o := 18) (j := 0) (ji := 0) (CN := RX5) (T := TX5) (N := 19) hC iX5_revoke_5 fX5_revoke_54 rfl dX5_revoke_106 rfl rfl (by decide) rfl rfl ?_
        rw [mset_hit]
        refine m_if_le (tgt := 114) hC dX5_revoke_109 (by decide) (by omega) (fun c_109 => ?_) (fun c_109 => ?_)
        · exfalso; omega
        · refine m_iconst (v := 0) hC dX5_revoke_112 (by decide) ?_
          refine m_iretx hC hR (Or.inl rfl) dX5_revoke_113 ⟨Nat.le_of_ble_eq_true rfl, Nat.le_of_ble_eq_true rfl⟩ ?_
          exact RP_bad hcd (by decide)
    · have b_31 := bI_1 c_31
      have a1 := of_decide_eq_true b_31
      refine m_iload_n hC dX5_revoke_34 2 rfl ?_
      refine m_iload_n hC dX5_revoke_35 3 rfl ?_
      refine m_icmp_eq (tgt := 43) hC dX5_revoke_36 (by decide) (by omega) (by omega) (fun c_36 => ?_) (fun c_36 => ?_)
      · refine m_iconst (v := 0) hC dX5_revoke_43 (by decide) ?_
        refine m_istore hC dX5_revoke_44 (fun z9 => [(5, .int (z32 z9)), (4, .int (z32 v4_21)), (0, .ref (g.2.2 18)), (1, .int (z32 f)), (2, .int (z32 s)), (3, .int (z32 a))]) (by decide) (fun _ => rfl) (fun v5_44 hv5_44 => ?_)
        refine m_aload_n hC dX5_revoke_46 2 rfl ?_
        refine m_iload hC dX5_revoke_47 1 rfl ?_
        refine m_if_ne (tgt := 56) hC dX5_revoke_49 (by decide) (by omega) (fun c_49 => ?_) (fun c_49 => ?_)
        · exfalso; omega
        · refine m_iconst (v := 1) hC dX5_revoke_52 (by decide) ?_
          refine m_goto (tgt := 102) hC dX5_revoke_53 (by decide) ?_
          have hcd : cdRevo S f s a = 1 := by unfold cdRevo; first | (rw [b_5]; rfl) | (simp [*]; done) | (exfalso; simp_all; done)
          refine m_putI (o := 18) (j := 0) (ji := 0) (CN := RX5) (T := TX5) (N := 19) hC iX5_revoke_5 fX5_revoke_54 rfl dX5_revoke_102 rfl rfl (by decide) rfl tyX5 tyX5_ok nmX5 rfl (by decide +kernel) rfl ?_
          refine m_aload_n hC dX5_revoke_105 2 rfl ?_
          refine m_getI (o := 18) (j := 0) (ji := 0) (CN := RX5) (T := TX5) (N := 19) hC iX5_revoke_5 fX5_revoke_54 rfl dX5_revoke_106 rfl rfl (by decide) rfl rfl ?_
          rw [mset_hit]
          refine m_if_le (tgt := 114) hC dX5_revoke_109 (by decide) (by omega) (fun c_109 => ?_) (fun c_109 => ?_)
          · exfalso; omega
          · refine m_iconst (v := 0) hC dX5_revoke_112 (by decide) ?_
            refine m_iretx hC hR (Or.inl rfl) dX5_revoke_113 ⟨Nat.le_of_ble_eq_true rfl, Nat.le_of_ble_eq_true rfl⟩ ?_
            exact RP_bad hcd (by decide)
      · refine m_iconst (v := 1) hC dX5_revoke_39 (by decide) ?_
        refine m_goto (tgt := 44) hC dX5_revoke_40 (by decide) ?_
        refine m_istore hC dX5_revoke_44 (fun z9 => [(5, .int (z32 z9)), (4, .int (z32 v4_21)), (0, .ref (g.2.2 18)), (1, .int (z32 f)), (2, .int (z32 s)), (3, .int (z32 a))]) (by decide) (fun _ => rfl) (fun v5_44 hv5_44 => ?_)
        refine m_aload_n hC dX5_revoke_46 2 rfl ?_
        refine m_iload hC dX5_revoke_47 1 rfl ?_
        refine m_if_ne (tgt := 56) hC dX5_revoke_49 (by decide) (by omega) (fun c_49 => ?_) (fun c_49 => ?_)
        · exfalso; omega
        · refine m_iconst (v := 1) hC dX5_revoke_52 (by decide) ?_
          refine m_goto (tgt := 102) hC dX5_revoke_53 (by decide) ?_
          have hcd : cdRevo S f s a = 1 := by unfold cdRevo; first | (rw [b_5]; rfl) | (simp [*]; done) | (exfalso; simp_all; done)
          refine m_putI (o := 18) (j := 0) (ji := 0) (CN := RX5) (T := TX5) (N := 19) hC iX5_revoke_5 fX5_revoke_54 rfl dX5_revoke_102 rfl rfl (by decide) rfl tyX5 tyX5_ok nmX5 rfl (by decide +kernel) rfl ?_
          refine m_aload_n hC dX5_revoke_105 2 rfl ?_
          refine m_getI (o := 18) (j := 0) (ji := 0) (CN := RX5) (T := TX5) (N := 19) hC iX5_revoke_5 fX5_revoke_54 rfl dX5_revoke_106 rfl rfl (by decide) rfl rfl ?_
          rw [mset_hit]
          refine m_if_le (tgt := 114) hC dX5_revoke_109 (by decide) (by omega) (fun c_109 => ?_) (fun c_109 => ?_)
          · exfalso; omega
          · refine m_iconst (v := 0) hC dX5_revoke_112 (by decide) ?_
            refine m_iretx hC hR (Or.inl rfl) dX5_revoke_113 ⟨Nat.le_of_ble_eq_true rfl, Nat.le_of_ble_eq_true rfl⟩ ?_
            exact RP_bad hcd (by decide)
  · have b_5 := bI_1 c_5
    have l1 := livR_in b_5 hg
    refine m_aload_n hC dX5_revoke_8 0 rfl ?_
    refine m_iload_n hC dX5_revoke_9 2 rfl ?_
    refine m_callVi (n := 1) hC (c_X5_isShop hs hg) gX5_revoke_X5_isShop rfl dX5_revoke_10 rfl rfl (by decide +kernel) ⟨Nat.le_of_ble_eq_true rfl, Nat.le_of_ble_eq_true rfl⟩ rfl (Nat.le_of_ble_eq_true rfl) ⟨Nat.le_of_ble_eq_true rfl, Nat.le_of_ble_eq_true rfl⟩ rfl ?_
    refine m_if_eq (tgt := 20) hC dX5_revoke_13 (by decide) (bI_32 _) (fun c_13 => ?_) (fun c_13 => ?_)
    · have b_13 := bI_0 c_13
      refine m_iconst (v := 0) hC dX5_revoke_20 (by decide) ?_
      refine m_istore hC dX5_revoke_21 (fun z9 => [(4, .int (z32 z9)), (0, .ref (g.2.2 18)), (1, .int (z32 f)), (2, .int (z32 s)), (3, .int (z32 a))]) (by decide) (fun _ => rfl) (fun v4_21 hv4_21 => ?_)
      refine m_iload_n hC dX5_revoke_23 4 rfl ?_
      refine m_iconst (v := 1) hC dX5_revoke_24 (by decide) ?_
      refine m_sipush (v := 500) hC dX5_revoke_25 (by decide) ?_
      refine m_callSi (n := 3) hC (c_X5_in ha (by omega) (by omega)) gX5_revoke_X5_in rfl dX5_revoke_28 (by decide +kernel) ⟨Nat.le_of_ble_eq_true rfl, Nat.le_of_ble_eq_true rfl⟩ rfl (Nat.le_of_ble_eq_true rfl) ⟨Nat.le_of_ble_eq_true rfl, Nat.le_of_ble_eq_true rfl⟩ rfl ?_
      refine m_if_eq (tgt := 43) hC dX5_revoke_31 (by decide) (bI_32 _) (fun c_31 => ?_) (fun c_31 => ?_)
      · have b_31 := bI_0 c_31
        refine m_iconst (v := 0) hC dX5_revoke_43 (by decide) ?_
        refine m_istore hC dX5_revoke_44 (fun z9 => [(5, .int (z32 z9)), (4, .int (z32 v4_21)), (0, .ref (g.2.2 18)), (1, .int (z32 f)), (2, .int (z32 s)), (3, .int (z32 a))]) (by decide) (fun _ => rfl) (fun v5_44 hv5_44 => ?_)
        refine m_aload_n hC dX5_revoke_46 2 rfl ?_
        refine m_iload hC dX5_revoke_47 1 rfl ?_
        refine m_if_ne (tgt := 56) hC dX5_revoke_49 (by decide) (by omega) (fun c_49 => ?_) (fun c_49 => ?_)
        · exfalso; omega
        · refine m_iconst (v := 1) hC dX5_revoke_52 (by decide) ?_
          refine m_goto (tgt := 102) hC dX5_revoke_53 (by decide) ?_
          have hcd : cdRevo S f s a = 1 := by unfold cdRevo; first | (rw [b_5]; rfl) | (simp [*]; done) | (exfalso; simp_all; done)
          refine m_putI (o := 18) (j := 0) (ji := 0) (CN := RX5) (T := TX5) (N := 19) hC iX5_revoke_5 fX5_revoke_54 rfl dX5_revoke_102 rfl rfl (by decide) rfl tyX5 tyX5_ok nmX5 rfl (by decide +kernel) rfl ?_
          refine m_aload_n hC dX5_revoke_105 2 rfl ?_
          refine m_getI (o := 18) (j := 0) (ji := 0) (CN := RX5) (T := TX5) (N := 19) hC iX5_revoke_5 fX5_revoke_54 rfl dX5_revoke_106 rfl rfl (by decide) rfl rfl ?_
          rw [mset_hit]
          refine m_if_le (tgt := 114) hC dX5_revoke_109 (by decide) (by omega) (fun c_109 => ?_) (fun c_109 => ?_)
          · exfalso; omega
          · refine m_iconst (v := 0) hC dX5_revoke_112 (by decide) ?_
            refine m_iretx hC hR (Or.inl rfl) dX5_revoke_113 ⟨Nat.le_of_ble_eq_true rfl, Nat.le_of_ble_eq_true rfl⟩ ?_
            exact RP_bad hcd (by decide)
      · have b_31 := bI_1 c_31
        have a1 := of_decide_eq_true b_31
        refine m_iload_n hC dX5_revoke_34 2 rfl ?_
        refine m_iload_n hC dX5_revoke_35 3 rfl ?_
        refine m_icmp_eq (tgt := 43) hC dX5_revoke_36 (by decide) (by omega) (by omega) (fun c_36 => ?_) (fun c_36 => ?_)
        · refine m_iconst (v := 0) hC dX5_revoke_43 (by decide) ?_
          refine m_istore hC dX5_revoke_44 (fun z9 => [(5, .int (z32 z9)), (4, .int (z32 v4_21)), (0, .ref (g.2.2 18)), (1, .int (z32 f)), (2, .int (z32 s)), (3, .int (z32 a))]) (by decide) (fun _ => rfl) (fun v5_44 hv5_44 => ?_)
          refine m_aload_n hC dX5_revoke_46 2 rfl ?_
          refine m_iload hC dX5_revoke_47 1 rfl ?_
          refine m_if_ne (tgt := 56) hC dX5_revoke_49 (by decide) (by omega) (fun c_49 => ?_) (fun c_49 => ?_)
          · exfalso; omega
          · refine m_iconst (v := 1) hC dX5_revoke_52 (by decide) ?_
            refine m_goto (tgt := 102) hC dX5_revoke_53 (by decide) ?_
            have hcd : cdRevo S f s a = 1 := by unfold cdRevo; first | (rw [b_5]; rfl) | (simp [*]; done) | (exfalso; simp_all; done)
            refine m_putI (o := 18) (j := 0) (ji := 0) (CN := RX5) (T := TX5) (N := 19) hC iX5_revoke_5 fX5_revoke_54 rfl dX5_revoke_102 rfl rfl (by decide) rfl tyX5 tyX5_ok nmX5 rfl (by decide +kernel) rfl ?_
            refine m_aload_n hC dX5_revoke_105 2 rfl ?_
            refine m_getI (o := 18) (j := 0) (ji := 0) (CN := RX5) (T := TX5) (N := 19) hC iX5_revoke_5 fX5_revoke_54 rfl dX5_revoke_106 rfl rfl (by decide) rfl rfl ?_
            rw [mset_hit]
            refine m_if_le (tgt := 114) hC dX5_revoke_109 (by decide) (by omega) (fun c_109 => ?_) (fun c_109 => ?_)
            · exfalso; omega
            · refine m_iconst (v := 0) hC dX5_revoke_112 (by decide) ?_
              refine m_iretx hC hR (Or.inl rfl) dX5_revoke_113 ⟨Nat.le_of_ble_eq_true rfl, Nat.le_of_ble_eq_true rfl⟩ ?_
              exact RP_bad hcd (by decide)
        · refine m_iconst (v := 1) hC dX5_revoke_39 (by decide) ?_
          refine m_goto (tgt := 44) hC dX5_revoke_40 (by decide) ?_
          refine m_istore hC dX5_revoke_44 (fun z9 => [(5, .int (z32 z9)), (4, .int (z32 v4_21)), (0, .ref (g.2.2 18)), (1, .int (z32 f)), (2, .int (z32 s)), (3, .int (z32 a))]) (by decide) (fun _ => rfl) (fun v5_44 hv5_44 => ?_)
          refine m_aload_n hC dX5_revoke_46 2 rfl ?_
          refine m_iload hC dX5_revoke_47 1 rfl ?_
          refine m_if_ne (tgt := 56) hC dX5_revoke_49 (by decide) (by omega) (fun c_49 => ?_) (fun c_49 => ?_)
          · exfalso; omega
          · refine m_iconst (v := 1) hC dX5_revoke_52 (by decide) ?_
            refine m_goto (tgt := 102) hC dX5_revoke_53 (by decide) ?_
            have hcd : cdRevo S f s a = 1 := by unfold cdRevo; first | (rw [b_5]; rfl) | (simp [*]; done) | (exfalso; simp_all; done)
            refine m_putI (o := 18) (j := 0) (ji := 0) (CN := RX5) (T := TX5) (N := 19) hC iX5_revoke_5 fX5_revoke_54 rfl dX5_revoke_102 rfl rfl (by decide) rfl tyX5 tyX5_ok nmX5 rfl (by decide +kernel) rfl ?_
            refine m_aload_n hC dX5_revoke_105 2 rfl ?_
            refine m_getI (o := 18) (j := 0) (ji := 0) (CN := RX5) (T := TX5) (N := 19) hC iX5_revoke_5 fX5_revoke_54 rfl dX5_revoke_106 rfl rfl (by decide) rfl rfl ?_
            rw [mset_hit]
            refine m_if_le (tgt := 114) hC dX5_revoke_109 (by decide) (by omega) (fun c_109 => ?_) (fun c_109 => ?_)
            · exfalso; omega
            · refine m_iconst (v := 0) hC dX5_revoke_112 (by decide) ?_
              refine m_iretx hC hR (Or.inl rfl) dX5_revoke_113 ⟨Nat.le_of_ble_eq_true rfl, Nat.le_of_ble_eq_true rfl⟩ ?_
              exact RP_bad hcd (by decide)
    · have b_13 := bI_1 c_13
      have l2 := livR_in b_13 hg
      refine m_iconst (v := 1) hC dX5_revoke_16 (by decide) ?_
      refine m_goto (tgt := 21) hC dX5_revoke_17 (by decide) ?_
      refine m_istore hC dX5_revoke_21 (fun z9 => [(4, .int (z32 z9)), (0, .ref (g.2.2 18)), (1, .int (z32 f)), (2, .int (z32 s)), (3, .int (z32 a))]) (by decide) (fun _ => rfl) (fun v4_21 hv4_21 => ?_)
      refine m_iload_n hC dX5_revoke_23 4 rfl ?_
      refine m_iconst (v := 1) hC dX5_revoke_24 (by decide) ?_
      refine m_sipush (v := 500) hC dX5_revoke_25 (by decide) ?_
      refine m_callSi (n := 3) hC (c_X5_in ha (by omega) (by omega)) gX5_revoke_X5_in rfl dX5_revoke_28 (by decide +kernel) ⟨Nat.le_of_ble_eq_true rfl, Nat.le_of_ble_eq_true rfl⟩ rfl (Nat.le_of_ble_eq_true rfl) ⟨Nat.le_of_ble_eq_true rfl, Nat.le_of_ble_eq_true rfl⟩ rfl ?_
      refine m_if_eq (tgt := 43) hC dX5_revoke_31 (by decide) (bI_32 _) (fun c_31 => ?_) (fun c_31 => ?_)
      · have b_31 := bI_0 c_31
        refine m_iconst (v := 0) hC dX5_revoke_43 (by decide) ?_
        refine m_istore hC dX5_revoke_44 (fun z9 => [(5, .int (z32 z9)), (4, .int (z32 v4_21)), (0, .ref (g.2.2 18)), (1, .int (z32 f)), (2, .int (z32 s)), (3, .int (z32 a))]) (by decide) (fun _ => rfl) (fun v5_44 hv5_44 => ?_)
        refine m_aload_n hC dX5_revoke_46 2 rfl ?_
        refine m_iload hC dX5_revoke_47 1 rfl ?_
        refine m_if_ne (tgt := 56) hC dX5_revoke_49 (by decide) (by omega) (fun c_49 => ?_) (fun c_49 => ?_)
        · refine m_iload hC dX5_revoke_56 0 rfl ?_
          refine m_if_ne (tgt := 65) hC dX5_revoke_58 (by decide) (by omega) (fun c_58 => ?_) (fun c_58 => ?_)
          · exfalso; omega
          · refine m_iconst (v := 2) hC dX5_revoke_61 (by decide) ?_
            refine m_goto (tgt := 102) hC dX5_revoke_62 (by decide) ?_
            have hcd : cdRevo S f s a = 2 := by unfold cdRevo; first | (rw [b_5]; rfl) | (simp [*]; done) | (exfalso; simp_all; done)
            refine m_putI (o := 18) (j := 0) (ji := 0) (CN := RX5) (T := TX5) (N := 19) hC iX5_revoke_5 fX5_revoke_54 rfl dX5_revoke_102 rfl rfl (by decide) rfl tyX5 tyX5_ok nmX5 rfl (by decide +kernel) rfl ?_
            refine m_aload_n hC dX5_revoke_105 2 rfl ?_
            refine m_getI (o := 18) (j := 0) (ji := 0) (CN := RX5) (T := TX5) (N := 19) hC iX5_revoke_5 fX5_revoke_54 rfl dX5_revoke_106 rfl rfl (by decide) rfl rfl ?_
            rw [mset_hit]
            refine m_if_le (tgt := 114) hC dX5_revoke_109 (by decide) (by omega) (fun c_109 => ?_) (fun c_109 => ?_)
            · exfalso; omega
            · refine m_iconst (v := 0) hC dX5_revoke_112 (by decide) ?_
              refine m_iretx hC hR (Or.inl rfl) dX5_revoke_113 ⟨Nat.le_of_ble_eq_true rfl, Nat.le_of_ble_eq_true rfl⟩ ?_
              exact RP_bad hcd (by decide)
        · exfalso; omega
      · have b_31 := bI_1 c_31
        have a1 := of_decide_eq_true b_31
        refine m_iload_n hC dX5_revoke_34 2 rfl ?_
        refine m_iload_n hC dX5_revoke_35 3 rfl ?_
        refine m_icmp_eq (tgt := 43) hC dX5_revoke_36 (by decide) (by omega) (by omega) (fun c_36 => ?_) (fun c_36 => ?_)
        · refine m_iconst (v := 0) hC dX5_revoke_43 (by decide) ?_
          refine m_istore hC dX5_revoke_44 (fun z9 => [(5, .int (z32 z9)), (4, .int (z32 v4_21)), (0, .ref (g.2.2 18)), (1, .int (z32 f)), (2, .int (z32 s)), (3, .int (z32 a))]) (by decide) (fun _ => rfl) (fun v5_44 hv5_44 => ?_)
          refine m_aload_n hC dX5_revoke_46 2 rfl ?_
          refine m_iload hC dX5_revoke_47 1 rfl ?_
          refine m_if_ne (tgt := 56) hC dX5_revoke_49 (by decide) (by omega) (fun c_49 => ?_) (fun c_49 => ?_)
          · refine m_iload hC dX5_revoke_56 0 rfl ?_
            refine m_if_ne (tgt := 65) hC dX5_revoke_58 (by decide) (by omega) (fun c_58 => ?_) (fun c_58 => ?_)
            · exfalso; omega
            · refine m_iconst (v := 2) hC dX5_revoke_61 (by decide) ?_
              refine m_goto (tgt := 102) hC dX5_revoke_62 (by decide) ?_
              have hcd : cdRevo S f s a = 2 := by unfold cdRevo; first | (rw [b_5]; rfl) | (simp [*]; done) | (exfalso; simp_all; done)
              refine m_putI (o := 18) (j := 0) (ji := 0) (CN := RX5) (T := TX5) (N := 19) hC iX5_revoke_5 fX5_revoke_54 rfl dX5_revoke_102 rfl rfl (by decide) rfl tyX5 tyX5_ok nmX5 rfl (by decide +kernel) rfl ?_
              refine m_aload_n hC dX5_revoke_105 2 rfl ?_
              refine m_getI (o := 18) (j := 0) (ji := 0) (CN := RX5) (T := TX5) (N := 19) hC iX5_revoke_5 fX5_revoke_54 rfl dX5_revoke_106 rfl rfl (by decide) rfl rfl ?_
              rw [mset_hit]
              refine m_if_le (tgt := 114) hC dX5_revoke_109 (by decide) (by omega) (fun c_109 => ?_) (fun c_109 => ?_)
              · exfalso; omega
              · refine m_iconst (v := 0) hC dX5_revoke_112 (by decide) ?_
                refine m_iretx hC hR (Or.inl rfl) dX5_revoke_113 ⟨Nat.le_of_ble_eq_true rfl, Nat.le_of_ble_eq_true rfl⟩ ?_
                exact RP_bad hcd (by decide)
          · exfalso; omega
        · refine m_iconst (v := 1) hC dX5_revoke_39 (by decide) ?_
          refine m_goto (tgt := 44) hC dX5_revoke_40 (by decide) ?_
          refine m_istore hC dX5_revoke_44 (fun z9 => [(5, .int (z32 z9)), (4, .int (z32 v4_21)), (0, .ref (g.2.2 18)), (1, .int (z32 f)), (2, .int (z32 s)), (3, .int (z32 a))]) (by decide) (fun _ => rfl) (fun v5_44 hv5_44 => ?_)
          refine m_aload_n hC dX5_revoke_46 2 rfl ?_
          refine m_iload hC dX5_revoke_47 1 rfl ?_
          refine m_if_ne (tgt := 56) hC dX5_revoke_49 (by decide) (by omega) (fun c_49 => ?_) (fun c_49 => ?_)
          · refine m_iload hC dX5_revoke_56 0 rfl ?_
            refine m_if_ne (tgt := 65) hC dX5_revoke_58 (by decide) (by omega) (fun c_58 => ?_) (fun c_58 => ?_)
            · have hbl := hok.1.bl (x := s) (by omega)
              have hlr := limR_rng hg hgu.1 (s := s) (by omega)
              have hgf := hgu.1.ent (i := f) (j := s) (by omega) (by omega)
              refine m_aload_n hC dX5_revoke_65 2 rfl ?_
              refine m_getR (o := 18) (j := 5) (a := 22) (CN := RX5) (T := TX5) (N := 19) hC iX5_revoke_5 fX5_revoke_20 rfl dX5_revoke_66 rfl rfl (by decide) rfl ?_
              refine m_iload_n hC dX5_revoke_69 3 rfl ?_
              refine m_iload_n hC dX5_revoke_70 4 rfl ?_
              refine m_callSi (n := 2) hC (c_X5_at) gX5_revoke_X5_at rfl dX5_revoke_71 (by decide +kernel) ⟨Nat.le_of_ble_eq_true rfl, Nat.le_of_ble_eq_true rfl⟩ rfl (Nat.le_of_ble_eq_true rfl) ⟨Nat.le_of_ble_eq_true rfl, Nat.le_of_ble_eq_true rfl⟩ rfl ?_
              refine m_iaload (o := 22) (n := 81) hC rfl dX5_revoke_74 (ix_lo (by omega) (by omega)) (ix_hi (by omega) (by omega)) (by decide) ?_
              refine m_iload_n hC dX5_revoke_75 5 rfl ?_
              refine m_icmp_lt (tgt := 97) hC dX5_revoke_76 (by decide) (by omega) (by omega) (fun c_76 => ?_) (fun c_76 => ?_)
              · refine m_iconst (v := 3) hC dX5_revoke_97 (by decide) ?_
                refine m_goto (tgt := 102) hC dX5_revoke_98 (by decide) ?_
                have hcd : cdRevo S f s a = 3 := by unfold cdRevo; first | (rw [b_5]; rfl) | (simp [*]; done) | (exfalso; simp_all; done)
                refine m_putI (o := 18) (j := 0) (ji := 0) (CN := RX5) (T := TX5) (N := 19) hC iX5_revoke_5 fX5_revoke_54 rfl dX5_revoke_102 rfl rfl (by decide) rfl tyX5 tyX5_ok nmX5 rfl (by decide +kernel) rfl ?_
                refine m_aload_n hC dX5_revoke_105 2 rfl ?_
                refine m_getI (o := 18) (j := 0) (ji := 0) (CN := RX5) (T := TX5) (N := 19) hC iX5_revoke_5 fX5_revoke_54 rfl dX5_revoke_106 rfl rfl (by decide) rfl rfl ?_
                rw [mset_hit]
                refine m_if_le (tgt := 114) hC dX5_revoke_109 (by decide) (by omega) (fun c_109 => ?_) (fun c_109 => ?_)
                · exfalso; omega
                · refine m_iconst (v := 0) hC dX5_revoke_112 (by decide) ?_
                  refine m_iretx hC hR (Or.inl rfl) dX5_revoke_113 ⟨Nat.le_of_ble_eq_true rfl, Nat.le_of_ble_eq_true rfl⟩ ?_
                  exact RP_bad hcd (by decide)
              · refine m_aload_n hC dX5_revoke_79 2 rfl ?_
                refine m_iload_n hC dX5_revoke_80 4 rfl ?_
                refine m_callVi (n := 1) hC (c_X5_balanceOf (by omega)) gX5_revoke_X5_balanceOf rfl dX5_revoke_81 rfl rfl (by decide +kernel) ⟨Nat.le_of_ble_eq_true rfl, Nat.le_of_ble_eq_true rfl⟩ rfl (Nat.le_of_ble_eq_true rfl) ⟨Nat.le_of_ble_eq_true rfl, Nat.le_of_ble_eq_true rfl⟩ rfl ?_
                refine m_aload_n hC dX5_revoke_84 2 rfl ?_
                refine m_iload_n hC dX5_revoke_85 4 rfl ?_
                refine m_callVi (n := 1) hC (c_X5_limitOf (by omega) hg) gX5_revoke_X5_limitOf rfl dX5_revoke_86 rfl rfl (by decide +kernel) ⟨Nat.le_of_ble_eq_true rfl, Nat.le_of_ble_eq_true rfl⟩ rfl (Nat.le_of_ble_eq_true rfl) ⟨Nat.le_of_ble_eq_true rfl, Nat.le_of_ble_eq_true rfl⟩ rfl ?_
                refine m_iload_n hC dX5_revoke_89 5 rfl ?_
                refine m_isub hC dX5_revoke_90 ?_
                refine m_callSi (n := 2) hC (c_X5_isBelow (by omega)) gX5_revoke_X5_isBelow rfl dX5_revoke_91 (by decide +kernel) ⟨Nat.le_of_ble_eq_true rfl, Nat.le_of_ble_eq_true rfl⟩ rfl (Nat.le_of_ble_eq_true rfl) ⟨Nat.le_of_ble_eq_true rfl, Nat.le_of_ble_eq_true rfl⟩ rfl ?_
                refine m_if_eq (tgt := 101) hC dX5_revoke_94 (by decide) (bI_32 _) (fun c_94 => ?_) (fun c_94 => ?_)
                · have b_94 := bI_0 c_94
                  refine m_iconst (v := 0) hC dX5_revoke_101 (by decide) ?_
                  have hcd : cdRevo S f s a = 0 := by unfold cdRevo; first | (rw [b_5]; rfl) | (simp [*]; done) | (exfalso; simp_all; done)
                  refine m_putI (o := 18) (j := 0) (ji := 0) (CN := RX5) (T := TX5) (N := 19) hC iX5_revoke_5 fX5_revoke_54 rfl dX5_revoke_102 rfl rfl (by decide) rfl tyX5 tyX5_ok nmX5 rfl (by decide +kernel) rfl ?_
                  refine m_aload_n hC dX5_revoke_105 2 rfl ?_
                  refine m_getI (o := 18) (j := 0) (ji := 0) (CN := RX5) (T := TX5) (N := 19) hC iX5_revoke_5 fX5_revoke_54 rfl dX5_revoke_106 rfl rfl (by decide) rfl rfl ?_
                  rw [mset_hit]
                  refine m_if_le (tgt := 114) hC dX5_revoke_109 (by decide) (by omega) (fun c_109 => ?_) (fun c_109 => ?_)
                  · obtain ⟨S0, hS0, hg0, q1, q7, q14, q15, q16, qo⟩ := thr0 S hg
                    rw [← hS0]
                    have q22 := qo 22 (by decide)
                    refine m_aload_n hC dX5_revoke_114 2 rfl ?_
                    refine m_getR (o := 18) (j := 5) (a := 22) (CN := RX5) (T := TX5) (N := 19) hC iX5_revoke_5 fX5_revoke_20 rfl dX5_revoke_115 rfl rfl (by decide) rfl ?_
                    refine m_iload_n hC dX5_revoke_118 3 rfl ?_
                    refine m_iload_n hC dX5_revoke_119 4 rfl ?_
                    refine m_callSi (n := 2) hC (c_X5_at) gX5_revoke_X5_at rfl dX5_revoke_120 (by decide +kernel) ⟨Nat.le_of_ble_eq_true rfl, Nat.le_of_ble_eq_true rfl⟩ rfl (Nat.le_of_ble_eq_true rfl) ⟨Nat.le_of_ble_eq_true rfl, Nat.le_of_ble_eq_true rfl⟩ rfl ?_
                    refine m_dup2 hC dX5_revoke_123 rfl rfl ?_
                    refine m_iaload (o := 22) (n := 81) hC rfl dX5_revoke_124 (ix_lo (by omega) (by omega)) (ix_hi (by omega) (by omega)) (by decide) ?_
                    refine m_iload_n hC dX5_revoke_125 5 rfl ?_
                    refine m_isub hC dX5_revoke_126 ?_
                    refine m_iastore (o := 22) (n := 81) hC rfl dX5_revoke_127 (ix_lo (by omega) (by omega)) (ix_hi (by omega) (by omega)) (by decide) ?_
                    refine m_aload_n hC dX5_revoke_128 2 rfl ?_
                    refine m_getR (o := 18) (j := 5) (a := 22) (CN := RX5) (T := TX5) (N := 19) hC iX5_revoke_5 fX5_revoke_20 rfl dX5_revoke_129 rfl rfl (by decide) rfl ?_
                    refine m_iload_n hC dX5_revoke_132 3 rfl ?_
                    refine m_iload_n hC dX5_revoke_133 4 rfl ?_
                    refine m_callSi (n := 2) hC (c_X5_at) gX5_revoke_X5_at rfl dX5_revoke_134 (by decide +kernel) ⟨Nat.le_of_ble_eq_true rfl, Nat.le_of_ble_eq_true rfl⟩ rfl (Nat.le_of_ble_eq_true rfl) ⟨Nat.le_of_ble_eq_true rfl, Nat.le_of_ble_eq_true rfl⟩ rfl ?_
                    refine m_iaload (o := 22) (n := 81) hC rfl dX5_revoke_137 (ix_lo (by omega) (by omega)) (ix_hi (by omega) (by omega)) (by decide) ?_
                    refine m_iretx hC hR (Or.inl rfl) dX5_revoke_138 ⟨Nat.le_of_ble_eq_true rfl, Nat.le_of_ble_eq_true rfl⟩ ?_
                    refine RP_ok hcd ?_ ?_
                    · first | (rw [mset_hit, q22]; done) | (rw [mset_hit, q22]; omega)
                    · rw [mset_mput, q22, hS0]; unfold stGu adF thr; first | rfl | (rw [Int.sub_eq_add_neg]; done) | (rw [Int.sub_eq_add_neg]; rfl)
                  · exfalso; omega
                · have b_94 := bI_1 c_94
                  refine m_iconst (v := 3) hC dX5_revoke_97 (by decide) ?_
                  refine m_goto (tgt := 102) hC dX5_revoke_98 (by decide) ?_
                  have hcd : cdRevo S f s a = 3 := by unfold cdRevo; first | (rw [b_5]; rfl) | (simp [*]; done) | (exfalso; simp_all; done)
                  refine m_putI (o := 18) (j := 0) (ji := 0) (CN := RX5) (T := TX5) (N := 19) hC iX5_revoke_5 fX5_revoke_54 rfl dX5_revoke_102 rfl rfl (by decide) rfl tyX5 tyX5_ok nmX5 rfl (by decide +kernel) rfl ?_
                  refine m_aload_n hC dX5_revoke_105 2 rfl ?_
                  refine m_getI (o := 18) (j := 0) (ji := 0) (CN := RX5) (T := TX5) (N := 19) hC iX5_revoke_5 fX5_revoke_54 rfl dX5_revoke_106 rfl rfl (by decide) rfl rfl ?_
                  rw [mset_hit]
                  refine m_if_le (tgt := 114) hC dX5_revoke_109 (by decide) (by omega) (fun c_109 => ?_) (fun c_109 => ?_)
                  · exfalso; omega
                  · refine m_iconst (v := 0) hC dX5_revoke_112 (by decide) ?_
                    refine m_iretx hC hR (Or.inl rfl) dX5_revoke_113 ⟨Nat.le_of_ble_eq_true rfl, Nat.le_of_ble_eq_true rfl⟩ ?_
                    exact RP_bad hcd (by decide)
            · exfalso; omega
          · exfalso; omega
theorem iX5_fee_5 : ∀ w ∈ wsX50, w ∈ wsX5_fee := by decide +kernel
theorem fX5_fee_54 : Cond.fieldLink RX5 54 "MutualledgerModel" "thrown" "I" ∈ wsX5_fee := by decide +kernel
theorem fX5_fee_44 : Cond.fieldLink RX5 44 "MutualledgerModel" "fee" "I" ∈ wsX5_fee := by decide +kernel
set_option maxHeartbeats 4000000 in
set_option maxRecDepth 100000 in
theorem c_X5_fee {g : mG} {S : Mem} {x : Int} (hx : -2147483648 ≤ x ∧ x < 2147483648) (hg : RgR S) (l : Launch) : Does l yX5_fee wsX5_fee ({ frames := 1, cells := 0, slots := 0, locals := 22 } : Room) g [.ref (g.2.2 18), .int (z32 x)] S (PIx (fun v S' => RP S (cdFee x) (S 18 15) (mset (thr S 0) 18 15 x) v S')) := by
  refine Does.of (cc := cX5_fee) (maxL := 3) (ret := (some .int)) (own := RX5) (by decide) rfl rfl (Nat.le_of_ble_eq_true rfl) ?_
  intro C hC hR
  show MW C g 3 (0, 0) 0 [(0, .ref (g.2.2 18)), (1, .int (z32 x))] [] S
  obtain ⟨r1, r2, r3, r4, r5, r6, r7⟩ := id hg
  refine m_aload_n hC dX5_fee_0 0 rfl ?_
  refine m_iload_n hC dX5_fee_1 1 rfl ?_
  refine m_iconst (v := 0) hC dX5_fee_2 (by decide) ?_
  refine m_sipush (v := 500) hC dX5_fee_3 (by decide) ?_
  refine m_callSi (n := 3) hC (c_X5_in hx (by omega) (by omega)) gX5_fee_X5_in rfl dX5_fee_6 (by decide +kernel) ⟨Nat.le_of_ble_eq_true rfl, Nat.le_of_ble_eq_true rfl⟩ rfl (Nat.le_of_ble_eq_true rfl) ⟨Nat.le_of_ble_eq_true rfl, Nat.le_of_ble_eq_true rfl⟩ rfl ?_
  refine m_if_eq (tgt := 16) hC dX5_fee_9 (by decide) (bI_32 _) (fun c_9 => ?_) (fun c_9 => ?_)
  · have b_9 := bI_0 c_9
    refine m_iconst (v := 1) hC dX5_fee_16 (by decide) ?_
    have hcd : cdFee x = 1 := by unfold cdFee; first | (simp [*]; done) | (exfalso; simp_all; done)
    refine m_putI (o := 18) (j := 0) (ji := 0) (CN := RX5) (T := TX5) (N := 19) hC iX5_fee_5 fX5_fee_54 rfl dX5_fee_17 rfl rfl (by decide) rfl tyX5 tyX5_ok nmX5 rfl (by decide +kernel) rfl ?_
    refine m_aload_n hC dX5_fee_20 0 rfl ?_
    refine m_getI (o := 18) (j := 0) (ji := 0) (CN := RX5) (T := TX5) (N := 19) hC iX5_fee_5 fX5_fee_54 rfl dX5_fee_21 rfl rfl (by decide) rfl rfl ?_
    rw [mset_hit]
    refine m_if_le (tgt := 29) hC dX5_fee_24 (by decide) (by omega) (fun c_24 => ?_) (fun c_24 => ?_)
    · exfalso; omega
    · refine m_iconst (v := 0) hC dX5_fee_27 (by decide) ?_
      refine m_iretx hC hR (Or.inl rfl) dX5_fee_28 ⟨Nat.le_of_ble_eq_true rfl, Nat.le_of_ble_eq_true rfl⟩ ?_
      exact RP_bad hcd (by decide)
  · have b_9 := bI_1 c_9
    refine m_iconst (v := 0) hC dX5_fee_12 (by decide) ?_
    refine m_goto (tgt := 17) hC dX5_fee_13 (by decide) ?_
    have hcd : cdFee x = 0 := by unfold cdFee; first | (simp [*]; done) | (exfalso; simp_all; done)
    refine m_putI (o := 18) (j := 0) (ji := 0) (CN := RX5) (T := TX5) (N := 19) hC iX5_fee_5 fX5_fee_54 rfl dX5_fee_17 rfl rfl (by decide) rfl tyX5 tyX5_ok nmX5 rfl (by decide +kernel) rfl ?_
    refine m_aload_n hC dX5_fee_20 0 rfl ?_
    refine m_getI (o := 18) (j := 0) (ji := 0) (CN := RX5) (T := TX5) (N := 19) hC iX5_fee_5 fX5_fee_54 rfl dX5_fee_21 rfl rfl (by decide) rfl rfl ?_
    rw [mset_hit]
    refine m_if_le (tgt := 29) hC dX5_fee_24 (by decide) (by omega) (fun c_24 => ?_) (fun c_24 => ?_)
    · obtain ⟨S0, hS0, hg0, q1, q7, q14, q15, q16, qo⟩ := thr0 S hg
      rw [← hS0]
      refine m_aload_n hC dX5_fee_29 0 rfl ?_
      refine m_getI (o := 18) (j := 15) (ji := 15) (CN := RX5) (T := TX5) (N := 19) hC iX5_fee_5 fX5_fee_44 rfl dX5_fee_30 rfl rfl (by decide) rfl rfl ?_
      try simp (decide := true) only [mset_o, mset_hit]
      refine m_istore_n hC dX5_fee_33 (fun z9 => [(2, .int (z32 z9)), (0, .ref (g.2.2 18)), (1, .int (z32 x))]) (by decide) (fun _ => rfl) (fun v2_33 hv2_33 => ?_)
      refine m_aload_n hC dX5_fee_34 1 rfl ?_
      refine m_iload_n hC dX5_fee_35 2 rfl ?_
      refine m_putI (o := 18) (j := 15) (ji := 15) (CN := RX5) (T := TX5) (N := 19) hC iX5_fee_5 fX5_fee_44 rfl dX5_fee_36 rfl rfl (by decide) rfl tyX5 tyX5_ok nmX5 rfl (by decide +kernel) rfl ?_
      refine m_iload_n hC dX5_fee_39 0 rfl ?_
      refine m_iretx hC hR (Or.inl rfl) dX5_fee_40 ⟨Nat.le_of_ble_eq_true rfl, Nat.le_of_ble_eq_true rfl⟩ ?_
      refine RP_ok hcd (by omega) ?_; rw [hS0]; rfl
    · exfalso; omega
theorem iX5_balance_5 : ∀ w ∈ wsX50, w ∈ wsX5_balance := by decide +kernel
theorem fX5_balance_54 : Cond.fieldLink RX5 54 "MutualledgerModel" "thrown" "I" ∈ wsX5_balance := by decide +kernel
set_option maxHeartbeats 4000000 in
set_option maxRecDepth 100000 in
theorem c_X5_balance {g : mG} {S : Mem} {x : Int} (hx : -2147483648 ≤ x ∧ x < 2147483648) (hg : RgR S) (l : Launch) : Does l yX5_balance wsX5_balance ({ frames := 2, cells := 0, slots := 0, locals := 44 } : Room) g [.ref (g.2.2 18), .int (z32 x)] S (PIx (fun v S' => RP S (cdBal S x) (bl (S 20) x) (thr S 0) v S')) := by
  refine Does.of (cc := cX5_balance) (maxL := 2) (ret := (some .int)) (own := RX5) (by decide) rfl rfl (Nat.le_of_ble_eq_true rfl) ?_
  intro C hC hR
  show MW C g 2 (0, 0) 0 [(0, .ref (g.2.2 18)), (1, .int (z32 x))] [] S
  obtain ⟨r1, r2, r3, r4, r5, r6, r7⟩ := id hg
  refine m_aload_n hC dX5_balance_0 0 rfl ?_
  refine m_aload_n hC dX5_balance_1 0 rfl ?_
  refine m_iload_n hC dX5_balance_2 1 rfl ?_
  refine m_callVi (n := 1) hC (c_X5_was hx hg) gX5_balance_X5_was rfl dX5_balance_3 rfl rfl (by decide +kernel) ⟨Nat.le_of_ble_eq_true rfl, Nat.le_of_ble_eq_true rfl⟩ rfl (Nat.le_of_ble_eq_true rfl) ⟨Nat.le_of_ble_eq_true rfl, Nat.le_of_ble_eq_true rfl⟩ rfl ?_
  refine m_if_ne (tgt := 15) hC dX5_balance_6 (by decide) (bI_32 _) (fun c_6 => ?_) (fun c_6 => ?_)
  · have b_6 := bI_1 c_6
    have l1 := wasR_in b_6 hg
    refine m_iconst (v := 0) hC dX5_balance_15 (by decide) ?_
    refine m_goto (tgt := 20) hC dX5_balance_16 (by decide) ?_
    have hcd : cdBal S x = 0 := by unfold cdBal; first | (simp [*]; done) | (exfalso; simp_all; done)
    refine m_putI (o := 18) (j := 0) (ji := 0) (CN := RX5) (T := TX5) (N := 19) hC iX5_balance_5 fX5_balance_54 rfl dX5_balance_20 rfl rfl (by decide) rfl tyX5 tyX5_ok nmX5 rfl (by decide +kernel) rfl ?_
    refine m_aload_n hC dX5_balance_23 0 rfl ?_
    refine m_getI (o := 18) (j := 0) (ji := 0) (CN := RX5) (T := TX5) (N := 19) hC iX5_balance_5 fX5_balance_54 rfl dX5_balance_24 rfl rfl (by decide) rfl rfl ?_
    rw [mset_hit]
    refine m_if_le (tgt := 34) hC dX5_balance_27 (by decide) (by omega) (fun c_27 => ?_) (fun c_27 => ?_)
    · obtain ⟨S0, hS0, hg0, q1, q7, q14, q15, q16, qo⟩ := thr0 S hg
      rw [← hS0]
      refine m_aload_n hC dX5_balance_34 0 rfl ?_
      refine m_iload_n hC dX5_balance_35 1 rfl ?_
      refine m_callVi (n := 1) hC (c_X5_balanceOf (by omega)) gX5_balance_X5_balanceOf rfl dX5_balance_36 rfl rfl (by decide +kernel) ⟨Nat.le_of_ble_eq_true rfl, Nat.le_of_ble_eq_true rfl⟩ rfl (Nat.le_of_ble_eq_true rfl) ⟨Nat.le_of_ble_eq_true rfl, Nat.le_of_ble_eq_true rfl⟩ rfl ?_
      refine m_iretx hC hR (Or.inl rfl) dX5_balance_39 ⟨Nat.le_of_ble_eq_true rfl, Nat.le_of_ble_eq_true rfl⟩ ?_
      first | exact RP_bad hcd (by decide) | exact RP_ok hcd (by rw [qo 20 (by decide)]) hS0
    · exfalso; omega
  · have b_6 := bI_0 (Decidable.of_not_not c_6)
    refine m_iload_n hC dX5_balance_9 1 rfl ?_
    refine m_bipush (v := 8) hC dX5_balance_10 (by decide) ?_
    refine m_icmp_ne (tgt := 19) hC dX5_balance_12 (by decide) (by omega) (by omega) (fun c_12 => ?_) (fun c_12 => ?_)
    · refine m_iconst (v := 1) hC dX5_balance_19 (by decide) ?_
      have hcd : cdBal S x = 1 := by unfold cdBal; first | (simp [*]; done) | (exfalso; simp_all; done)
      refine m_putI (o := 18) (j := 0) (ji := 0) (CN := RX5) (T := TX5) (N := 19) hC iX5_balance_5 fX5_balance_54 rfl dX5_balance_20 rfl rfl (by decide) rfl tyX5 tyX5_ok nmX5 rfl (by decide +kernel) rfl ?_
      refine m_aload_n hC dX5_balance_23 0 rfl ?_
      refine m_getI (o := 18) (j := 0) (ji := 0) (CN := RX5) (T := TX5) (N := 19) hC iX5_balance_5 fX5_balance_54 rfl dX5_balance_24 rfl rfl (by decide) rfl rfl ?_
      rw [mset_hit]
      refine m_if_le (tgt := 34) hC dX5_balance_27 (by decide) (by omega) (fun c_27 => ?_) (fun c_27 => ?_)
      · exfalso; omega
      · refine m_iconst (v := 0) hC dX5_balance_30 (by decide) ?_
        refine m_goto (tgt := 39) hC dX5_balance_31 (by decide) ?_
        refine m_iretx hC hR (Or.inl rfl) dX5_balance_39 ⟨Nat.le_of_ble_eq_true rfl, Nat.le_of_ble_eq_true rfl⟩ ?_
        first | exact RP_bad hcd (by decide) | exact RP_ok hcd (by rw [qo 20 (by decide)]) hS0
    · refine m_iconst (v := 0) hC dX5_balance_15 (by decide) ?_
      refine m_goto (tgt := 20) hC dX5_balance_16 (by decide) ?_
      have hcd : cdBal S x = 0 := by unfold cdBal; first | (simp [*]; done) | (exfalso; simp_all; done)
      refine m_putI (o := 18) (j := 0) (ji := 0) (CN := RX5) (T := TX5) (N := 19) hC iX5_balance_5 fX5_balance_54 rfl dX5_balance_20 rfl rfl (by decide) rfl tyX5 tyX5_ok nmX5 rfl (by decide +kernel) rfl ?_
      refine m_aload_n hC dX5_balance_23 0 rfl ?_
      refine m_getI (o := 18) (j := 0) (ji := 0) (CN := RX5) (T := TX5) (N := 19) hC iX5_balance_5 fX5_balance_54 rfl dX5_balance_24 rfl rfl (by decide) rfl rfl ?_
      rw [mset_hit]
      refine m_if_le (tgt := 34) hC dX5_balance_27 (by decide) (by omega) (fun c_27 => ?_) (fun c_27 => ?_)
      · obtain ⟨S0, hS0, hg0, q1, q7, q14, q15, q16, qo⟩ := thr0 S hg
        rw [← hS0]
        refine m_aload_n hC dX5_balance_34 0 rfl ?_
        refine m_iload_n hC dX5_balance_35 1 rfl ?_
        refine m_callVi (n := 1) hC (c_X5_balanceOf (by omega)) gX5_balance_X5_balanceOf rfl dX5_balance_36 rfl rfl (by decide +kernel) ⟨Nat.le_of_ble_eq_true rfl, Nat.le_of_ble_eq_true rfl⟩ rfl (Nat.le_of_ble_eq_true rfl) ⟨Nat.le_of_ble_eq_true rfl, Nat.le_of_ble_eq_true rfl⟩ rfl ?_
        refine m_iretx hC hR (Or.inl rfl) dX5_balance_39 ⟨Nat.le_of_ble_eq_true rfl, Nat.le_of_ble_eq_true rfl⟩ ?_
        first | exact RP_bad hcd (by decide) | exact RP_ok hcd (by rw [qo 20 (by decide)]) hS0
      · exfalso; omega
set_option maxHeartbeats 4000000 in
set_option maxRecDepth 100000 in
theorem c_X5_balanceAnew {g : mG} {S : Mem} {x : Int} (hx : -2147483648 ≤ x ∧ x < 2147483648) (hg : RgR S) (l : Launch) : Does l yX5_balanceAnew wsX5_balanceAnew ({ frames := 3, cells := 0, slots := 0, locals := 65 } : Room) g [.ref (g.2.2 18), .int (z32 x)] S (PIx (fun v S' => RP S (cdBal S x) (bl (S 20) x) (thr S 0) v S')) := by
  refine Does.of (cc := cX5_balanceAnew) (maxL := 2) (ret := (some .int)) (own := RX5) (by decide) rfl rfl (Nat.le_of_ble_eq_true rfl) ?_
  intro C hC hR
  show MW C g 2 (0, 0) 0 [(0, .ref (g.2.2 18)), (1, .int (z32 x))] [] S
  refine m_aload_n hC dX5_balanceAnew_0 0 rfl ?_
  refine m_iload_n hC dX5_balanceAnew_1 1 rfl ?_
  refine m_callVix (n := 1) hC (c_X5_balance hx hg) gX5_balanceAnew_X5_balance rfl dX5_balanceAnew_2 rfl rfl (by decide +kernel) ⟨Nat.le_of_ble_eq_true rfl, Nat.le_of_ble_eq_true rfl⟩ rfl (Nat.le_of_ble_eq_true rfl) ⟨Nat.le_of_ble_eq_true rfl, Nat.le_of_ble_eq_true rfl⟩ rfl (fun v9 S9 hv9 => ?_)
  refine m_iretx hC hR (Or.inl rfl) dX5_balanceAnew_5 ⟨Nat.le_of_ble_eq_true rfl, Nat.le_of_ble_eq_true rfl⟩ ?_
  exact hv9
theorem iX5_limit_5 : ∀ w ∈ wsX50, w ∈ wsX5_limit := by decide +kernel
theorem fX5_limit_54 : Cond.fieldLink RX5 54 "MutualledgerModel" "thrown" "I" ∈ wsX5_limit := by decide +kernel
set_option maxHeartbeats 4000000 in
set_option maxRecDepth 100000 in
theorem c_X5_limit {g : mG} {S : Mem} {x : Int} (hx : -2147483648 ≤ x ∧ x < 2147483648) (hg : RgR S) (l : Launch) : Does l yX5_limit wsX5_limit ({ frames := 2, cells := 0, slots := 0, locals := 46 } : Room) g [.ref (g.2.2 18), .int (z32 x)] S (PIx (fun v S' => RP S (cdLim S x) (limR S x) (thr S 0) v S')) := by
  refine Does.of (cc := cX5_limit) (maxL := 2) (ret := (some .int)) (own := RX5) (by decide) rfl rfl (Nat.le_of_ble_eq_true rfl) ?_
  intro C hC hR
  show MW C g 2 (0, 0) 0 [(0, .ref (g.2.2 18)), (1, .int (z32 x))] [] S
  obtain ⟨r1, r2, r3, r4, r5, r6, r7⟩ := id hg
  refine m_aload_n hC dX5_limit_0 0 rfl ?_
  refine m_aload_n hC dX5_limit_1 0 rfl ?_
  refine m_iload_n hC dX5_limit_2 1 rfl ?_
  refine m_callVi (n := 1) hC (c_X5_isShop hx hg) gX5_limit_X5_isShop rfl dX5_limit_3 rfl rfl (by decide +kernel) ⟨Nat.le_of_ble_eq_true rfl, Nat.le_of_ble_eq_true rfl⟩ rfl (Nat.le_of_ble_eq_true rfl) ⟨Nat.le_of_ble_eq_true rfl, Nat.le_of_ble_eq_true rfl⟩ rfl ?_
  refine m_if_eq (tgt := 13) hC dX5_limit_6 (by decide) (bI_32 _) (fun c_6 => ?_) (fun c_6 => ?_)
  · have b_6 := bI_0 c_6
    refine m_iconst (v := 1) hC dX5_limit_13 (by decide) ?_
    have hcd : cdLim S x = 1 := by unfold cdLim; first | (simp [*]; done) | (exfalso; simp_all; done)
    refine m_putI (o := 18) (j := 0) (ji := 0) (CN := RX5) (T := TX5) (N := 19) hC iX5_limit_5 fX5_limit_54 rfl dX5_limit_14 rfl rfl (by decide) rfl tyX5 tyX5_ok nmX5 rfl (by decide +kernel) rfl ?_
    refine m_aload_n hC dX5_limit_17 0 rfl ?_
    refine m_getI (o := 18) (j := 0) (ji := 0) (CN := RX5) (T := TX5) (N := 19) hC iX5_limit_5 fX5_limit_54 rfl dX5_limit_18 rfl rfl (by decide) rfl rfl ?_
    rw [mset_hit]
    refine m_if_le (tgt := 28) hC dX5_limit_21 (by decide) (by omega) (fun c_21 => ?_) (fun c_21 => ?_)
    · exfalso; omega
    · refine m_iconst (v := 0) hC dX5_limit_24 (by decide) ?_
      refine m_goto (tgt := 33) hC dX5_limit_25 (by decide) ?_
      refine m_iretx hC hR (Or.inl rfl) dX5_limit_33 ⟨Nat.le_of_ble_eq_true rfl, Nat.le_of_ble_eq_true rfl⟩ ?_
      first | exact RP_bad hcd (by decide) | exact RP_ok hcd (by rw [hS0]; rfl) hS0
  · have b_6 := bI_1 c_6
    have l1 := livR_in b_6 hg
    refine m_iconst (v := 0) hC dX5_limit_9 (by decide) ?_
    refine m_goto (tgt := 14) hC dX5_limit_10 (by decide) ?_
    have hcd : cdLim S x = 0 := by unfold cdLim; first | (simp [*]; done) | (exfalso; simp_all; done)
    refine m_putI (o := 18) (j := 0) (ji := 0) (CN := RX5) (T := TX5) (N := 19) hC iX5_limit_5 fX5_limit_54 rfl dX5_limit_14 rfl rfl (by decide) rfl tyX5 tyX5_ok nmX5 rfl (by decide +kernel) rfl ?_
    refine m_aload_n hC dX5_limit_17 0 rfl ?_
    refine m_getI (o := 18) (j := 0) (ji := 0) (CN := RX5) (T := TX5) (N := 19) hC iX5_limit_5 fX5_limit_54 rfl dX5_limit_18 rfl rfl (by decide) rfl rfl ?_
    rw [mset_hit]
    refine m_if_le (tgt := 28) hC dX5_limit_21 (by decide) (by omega) (fun c_21 => ?_) (fun c_21 => ?_)
    · obtain ⟨S0, hS0, hg0, q1, q7, q14, q15, q16, qo⟩ := thr0 S hg
      rw [← hS0]
      refine m_aload_n hC dX5_limit_28 0 rfl ?_
      refine m_iload_n hC dX5_limit_29 1 rfl ?_
      refine m_callVi (n := 1) hC (c_X5_limitOf (by omega) hg0) gX5_limit_X5_limitOf rfl dX5_limit_30 rfl rfl (by decide +kernel) ⟨Nat.le_of_ble_eq_true rfl, Nat.le_of_ble_eq_true rfl⟩ rfl (Nat.le_of_ble_eq_true rfl) ⟨Nat.le_of_ble_eq_true rfl, Nat.le_of_ble_eq_true rfl⟩ rfl ?_
      refine m_iretx hC hR (Or.inl rfl) dX5_limit_33 ⟨Nat.le_of_ble_eq_true rfl, Nat.le_of_ble_eq_true rfl⟩ ?_
      first | exact RP_bad hcd (by decide) | exact RP_ok hcd (by rw [hS0]; rfl) hS0
    · exfalso; omega
theorem iX5_owes_5 : ∀ w ∈ wsX50, w ∈ wsX5_owes := by decide +kernel
theorem fX5_owes_54 : Cond.fieldLink RX5 54 "MutualledgerModel" "thrown" "I" ∈ wsX5_owes := by decide +kernel
theorem fX5_owes_13 : Cond.fieldLink RX5 13 "MutualledgerModel" "owes" "[I" ∈ wsX5_owes := by decide +kernel
set_option maxHeartbeats 4000000 in
set_option maxRecDepth 100000 in
theorem c_X5_owes {g : mG} {S : Mem} {x : Int} (hx : -2147483648 ≤ x ∧ x < 2147483648) {y : Int} (hy : -2147483648 ≤ y ∧ y < 2147483648) (hg : RgR S) (l : Launch) : Does l yX5_owes wsX5_owes ({ frames := 2, cells := 0, slots := 0, locals := 43 } : Room) g [.ref (g.2.2 18), .int (z32 x), .int (z32 y)] S (PIx (fun v S' => RP S (cdOwes S x y) (S 20 (ix x y)) (thr S 0) v S')) := by
  refine Does.of (cc := cX5_owes) (maxL := 3) (ret := (some .int)) (own := RX5) (by decide) rfl rfl (Nat.le_of_ble_eq_true rfl) ?_
  intro C hC hR
  show MW C g 3 (0, 0) 0 [(0, .ref (g.2.2 18)), (1, .int (z32 x)), (2, .int (z32 y))] [] S
  obtain ⟨r1, r2, r3, r4, r5, r6, r7⟩ := id hg
  refine m_aload_n hC dX5_owes_0 0 rfl ?_
  refine m_aload_n hC dX5_owes_1 0 rfl ?_
  refine m_iload_n hC dX5_owes_2 1 rfl ?_
  refine m_callVi (n := 1) hC (c_X5_was hx hg) gX5_owes_X5_was rfl dX5_owes_3 rfl rfl (by decide +kernel) ⟨Nat.le_of_ble_eq_true rfl, Nat.le_of_ble_eq_true rfl⟩ rfl (Nat.le_of_ble_eq_true rfl) ⟨Nat.le_of_ble_eq_true rfl, Nat.le_of_ble_eq_true rfl⟩ rfl ?_
  refine m_if_eq (tgt := 27) hC dX5_owes_6 (by decide) (bI_32 _) (fun c_6 => ?_) (fun c_6 => ?_)
  · have b_6 := bI_0 c_6
    refine m_iconst (v := 1) hC dX5_owes_27 (by decide) ?_
    have hcd : cdOwes S x y = 1 := by unfold cdOwes; first | (simp [*]; done) | (exfalso; simp_all; done)
    refine m_putI (o := 18) (j := 0) (ji := 0) (CN := RX5) (T := TX5) (N := 19) hC iX5_owes_5 fX5_owes_54 rfl dX5_owes_28 rfl rfl (by decide) rfl tyX5 tyX5_ok nmX5 rfl (by decide +kernel) rfl ?_
    refine m_aload_n hC dX5_owes_31 0 rfl ?_
    refine m_getI (o := 18) (j := 0) (ji := 0) (CN := RX5) (T := TX5) (N := 19) hC iX5_owes_5 fX5_owes_54 rfl dX5_owes_32 rfl rfl (by decide) rfl rfl ?_
    rw [mset_hit]
    refine m_if_le (tgt := 42) hC dX5_owes_35 (by decide) (by omega) (fun c_35 => ?_) (fun c_35 => ?_)
    · exfalso; omega
    · refine m_iconst (v := 0) hC dX5_owes_38 (by decide) ?_
      refine m_goto (tgt := 52) hC dX5_owes_39 (by decide) ?_
      refine m_iretx hC hR (Or.inl rfl) dX5_owes_52 ⟨Nat.le_of_ble_eq_true rfl, Nat.le_of_ble_eq_true rfl⟩ ?_
      first | exact RP_bad hcd (by decide) | exact RP_ok hcd (by rw [qo 20 (by decide)]) hS0
  · have b_6 := bI_1 c_6
    have l1 := wasR_in b_6 hg
    refine m_aload_n hC dX5_owes_9 0 rfl ?_
    refine m_iload_n hC dX5_owes_10 2 rfl ?_
    refine m_callVi (n := 1) hC (c_X5_was hy hg) gX5_owes_X5_was rfl dX5_owes_11 rfl rfl (by decide +kernel) ⟨Nat.le_of_ble_eq_true rfl, Nat.le_of_ble_eq_true rfl⟩ rfl (Nat.le_of_ble_eq_true rfl) ⟨Nat.le_of_ble_eq_true rfl, Nat.le_of_ble_eq_true rfl⟩ rfl ?_
    refine m_if_ne (tgt := 23) hC dX5_owes_14 (by decide) (bI_32 _) (fun c_14 => ?_) (fun c_14 => ?_)
    · have b_14 := bI_1 c_14
      have l2 := wasR_in b_14 hg
      refine m_iconst (v := 0) hC dX5_owes_23 (by decide) ?_
      refine m_goto (tgt := 28) hC dX5_owes_24 (by decide) ?_
      have hcd : cdOwes S x y = 0 := by unfold cdOwes; first | (simp [*]; done) | (exfalso; simp_all; done)
      refine m_putI (o := 18) (j := 0) (ji := 0) (CN := RX5) (T := TX5) (N := 19) hC iX5_owes_5 fX5_owes_54 rfl dX5_owes_28 rfl rfl (by decide) rfl tyX5 tyX5_ok nmX5 rfl (by decide +kernel) rfl ?_
      refine m_aload_n hC dX5_owes_31 0 rfl ?_
      refine m_getI (o := 18) (j := 0) (ji := 0) (CN := RX5) (T := TX5) (N := 19) hC iX5_owes_5 fX5_owes_54 rfl dX5_owes_32 rfl rfl (by decide) rfl rfl ?_
      rw [mset_hit]
      refine m_if_le (tgt := 42) hC dX5_owes_35 (by decide) (by omega) (fun c_35 => ?_) (fun c_35 => ?_)
      · obtain ⟨S0, hS0, hg0, q1, q7, q14, q15, q16, qo⟩ := thr0 S hg
        rw [← hS0]
        refine m_aload_n hC dX5_owes_42 0 rfl ?_
        refine m_getR (o := 18) (j := 3) (a := 20) (CN := RX5) (T := TX5) (N := 19) hC iX5_owes_5 fX5_owes_13 rfl dX5_owes_43 rfl rfl (by decide) rfl ?_
        refine m_iload_n hC dX5_owes_46 1 rfl ?_
        refine m_iload_n hC dX5_owes_47 2 rfl ?_
        refine m_callSi (n := 2) hC (c_X5_at) gX5_owes_X5_at rfl dX5_owes_48 (by decide +kernel) ⟨Nat.le_of_ble_eq_true rfl, Nat.le_of_ble_eq_true rfl⟩ rfl (Nat.le_of_ble_eq_true rfl) ⟨Nat.le_of_ble_eq_true rfl, Nat.le_of_ble_eq_true rfl⟩ rfl ?_
        refine m_iaload (o := 20) (n := 81) hC rfl dX5_owes_51 (ix_lo (by omega) (by omega)) (ix_hi (by omega) (by omega)) (by decide) ?_
        refine m_iretx hC hR (Or.inl rfl) dX5_owes_52 ⟨Nat.le_of_ble_eq_true rfl, Nat.le_of_ble_eq_true rfl⟩ ?_
        first | exact RP_bad hcd (by decide) | exact RP_ok hcd (by rw [qo 20 (by decide)]) hS0
      · exfalso; omega
    · have b_14 := bI_0 (Decidable.of_not_not c_14)
      refine m_iload_n hC dX5_owes_17 2 rfl ?_
      refine m_bipush (v := 8) hC dX5_owes_18 (by decide) ?_
      refine m_icmp_ne (tgt := 27) hC dX5_owes_20 (by decide) (by omega) (by omega) (fun c_20 => ?_) (fun c_20 => ?_)
      · refine m_iconst (v := 1) hC dX5_owes_27 (by decide) ?_
        have hcd : cdOwes S x y = 1 := by unfold cdOwes; first | (simp [*]; done) | (exfalso; simp_all; done)
        refine m_putI (o := 18) (j := 0) (ji := 0) (CN := RX5) (T := TX5) (N := 19) hC iX5_owes_5 fX5_owes_54 rfl dX5_owes_28 rfl rfl (by decide) rfl tyX5 tyX5_ok nmX5 rfl (by decide +kernel) rfl ?_
        refine m_aload_n hC dX5_owes_31 0 rfl ?_
        refine m_getI (o := 18) (j := 0) (ji := 0) (CN := RX5) (T := TX5) (N := 19) hC iX5_owes_5 fX5_owes_54 rfl dX5_owes_32 rfl rfl (by decide) rfl rfl ?_
        rw [mset_hit]
        refine m_if_le (tgt := 42) hC dX5_owes_35 (by decide) (by omega) (fun c_35 => ?_) (fun c_35 => ?_)
        · exfalso; omega
        · refine m_iconst (v := 0) hC dX5_owes_38 (by decide) ?_
          refine m_goto (tgt := 52) hC dX5_owes_39 (by decide) ?_
          refine m_iretx hC hR (Or.inl rfl) dX5_owes_52 ⟨Nat.le_of_ble_eq_true rfl, Nat.le_of_ble_eq_true rfl⟩ ?_
          first | exact RP_bad hcd (by decide) | exact RP_ok hcd (by rw [qo 20 (by decide)]) hS0
      · refine m_iconst (v := 0) hC dX5_owes_23 (by decide) ?_
        refine m_goto (tgt := 28) hC dX5_owes_24 (by decide) ?_
        have hcd : cdOwes S x y = 0 := by unfold cdOwes; first | (simp [*]; done) | (exfalso; simp_all; done)
        refine m_putI (o := 18) (j := 0) (ji := 0) (CN := RX5) (T := TX5) (N := 19) hC iX5_owes_5 fX5_owes_54 rfl dX5_owes_28 rfl rfl (by decide) rfl tyX5 tyX5_ok nmX5 rfl (by decide +kernel) rfl ?_
        refine m_aload_n hC dX5_owes_31 0 rfl ?_
        refine m_getI (o := 18) (j := 0) (ji := 0) (CN := RX5) (T := TX5) (N := 19) hC iX5_owes_5 fX5_owes_54 rfl dX5_owes_32 rfl rfl (by decide) rfl rfl ?_
        rw [mset_hit]
        refine m_if_le (tgt := 42) hC dX5_owes_35 (by decide) (by omega) (fun c_35 => ?_) (fun c_35 => ?_)
        · obtain ⟨S0, hS0, hg0, q1, q7, q14, q15, q16, qo⟩ := thr0 S hg
          rw [← hS0]
          refine m_aload_n hC dX5_owes_42 0 rfl ?_
          refine m_getR (o := 18) (j := 3) (a := 20) (CN := RX5) (T := TX5) (N := 19) hC iX5_owes_5 fX5_owes_13 rfl dX5_owes_43 rfl rfl (by decide) rfl ?_
          refine m_iload_n hC dX5_owes_46 1 rfl ?_
          refine m_iload_n hC dX5_owes_47 2 rfl ?_
          refine m_callSi (n := 2) hC (c_X5_at) gX5_owes_X5_at rfl dX5_owes_48 (by decide +kernel) ⟨Nat.le_of_ble_eq_true rfl, Nat.le_of_ble_eq_true rfl⟩ rfl (Nat.le_of_ble_eq_true rfl) ⟨Nat.le_of_ble_eq_true rfl, Nat.le_of_ble_eq_true rfl⟩ rfl ?_
          refine m_iaload (o := 20) (n := 81) hC rfl dX5_owes_51 (ix_lo (by omega) (by omega)) (ix_hi (by omega) (by omega)) (by decide) ?_
          refine m_iretx hC hR (Or.inl rfl) dX5_owes_52 ⟨Nat.le_of_ble_eq_true rfl, Nat.le_of_ble_eq_true rfl⟩ ?_
          first | exact RP_bad hcd (by decide) | exact RP_ok hcd (by rw [qo 20 (by decide)]) hS0
        · exfalso; omega
theorem iX5_frozen_5 : ∀ w ∈ wsX50, w ∈ wsX5_frozen := by decide +kernel
theorem fX5_frozen_54 : Cond.fieldLink RX5 54 "MutualledgerModel" "thrown" "I" ∈ wsX5_frozen := by decide +kernel
theorem fX5_frozen_17 : Cond.fieldLink RX5 17 "MutualledgerModel" "frozen" "[I" ∈ wsX5_frozen := by decide +kernel
set_option maxHeartbeats 4000000 in
set_option maxRecDepth 100000 in
theorem c_X5_frozen {g : mG} {S : Mem} {x : Int} (hx : -2147483648 ≤ x ∧ x < 2147483648) {y : Int} (hy : -2147483648 ≤ y ∧ y < 2147483648) (hg : RgR S) (l : Launch) : Does l yX5_frozen wsX5_frozen ({ frames := 2, cells := 0, slots := 0, locals := 43 } : Room) g [.ref (g.2.2 18), .int (z32 x), .int (z32 y)] S (PIx (fun v S' => RP S (cdTwo S x y) (S 21 (ix x y)) (thr S 0) v S')) := by
  refine Does.of (cc := cX5_frozen) (maxL := 3) (ret := (some .int)) (own := RX5) (by decide) rfl rfl (Nat.le_of_ble_eq_true rfl) ?_
  intro C hC hR
  show MW C g 3 (0, 0) 0 [(0, .ref (g.2.2 18)), (1, .int (z32 x)), (2, .int (z32 y))] [] S
  obtain ⟨r1, r2, r3, r4, r5, r6, r7⟩ := id hg
  refine m_aload_n hC dX5_frozen_0 0 rfl ?_
  refine m_aload_n hC dX5_frozen_1 0 rfl ?_
  refine m_iload_n hC dX5_frozen_2 1 rfl ?_
  refine m_callVi (n := 1) hC (c_X5_was hx hg) gX5_frozen_X5_was rfl dX5_frozen_3 rfl rfl (by decide +kernel) ⟨Nat.le_of_ble_eq_true rfl, Nat.le_of_ble_eq_true rfl⟩ rfl (Nat.le_of_ble_eq_true rfl) ⟨Nat.le_of_ble_eq_true rfl, Nat.le_of_ble_eq_true rfl⟩ rfl ?_
  refine m_if_eq (tgt := 21) hC dX5_frozen_6 (by decide) (bI_32 _) (fun c_6 => ?_) (fun c_6 => ?_)
  · have b_6 := bI_0 c_6
    refine m_iconst (v := 1) hC dX5_frozen_21 (by decide) ?_
    have hcd : cdTwo S x y = 1 := by unfold cdTwo; first | (simp [*]; done) | (exfalso; simp_all; done)
    refine m_putI (o := 18) (j := 0) (ji := 0) (CN := RX5) (T := TX5) (N := 19) hC iX5_frozen_5 fX5_frozen_54 rfl dX5_frozen_22 rfl rfl (by decide) rfl tyX5 tyX5_ok nmX5 rfl (by decide +kernel) rfl ?_
    refine m_aload_n hC dX5_frozen_25 0 rfl ?_
    refine m_getI (o := 18) (j := 0) (ji := 0) (CN := RX5) (T := TX5) (N := 19) hC iX5_frozen_5 fX5_frozen_54 rfl dX5_frozen_26 rfl rfl (by decide) rfl rfl ?_
    rw [mset_hit]
    refine m_if_le (tgt := 36) hC dX5_frozen_29 (by decide) (by omega) (fun c_29 => ?_) (fun c_29 => ?_)
    · exfalso; omega
    · refine m_iconst (v := 0) hC dX5_frozen_32 (by decide) ?_
      refine m_goto (tgt := 46) hC dX5_frozen_33 (by decide) ?_
      refine m_iretx hC hR (Or.inl rfl) dX5_frozen_46 ⟨Nat.le_of_ble_eq_true rfl, Nat.le_of_ble_eq_true rfl⟩ ?_
      first | exact RP_bad hcd (by decide) | exact RP_ok hcd (by rw [qo 21 (by decide)]) hS0
  · have b_6 := bI_1 c_6
    have l1 := wasR_in b_6 hg
    refine m_aload_n hC dX5_frozen_9 0 rfl ?_
    refine m_iload_n hC dX5_frozen_10 2 rfl ?_
    refine m_callVi (n := 1) hC (c_X5_was hy hg) gX5_frozen_X5_was rfl dX5_frozen_11 rfl rfl (by decide +kernel) ⟨Nat.le_of_ble_eq_true rfl, Nat.le_of_ble_eq_true rfl⟩ rfl (Nat.le_of_ble_eq_true rfl) ⟨Nat.le_of_ble_eq_true rfl, Nat.le_of_ble_eq_true rfl⟩ rfl ?_
    refine m_if_eq (tgt := 21) hC dX5_frozen_14 (by decide) (bI_32 _) (fun c_14 => ?_) (fun c_14 => ?_)
    · have b_14 := bI_0 c_14
      refine m_iconst (v := 1) hC dX5_frozen_21 (by decide) ?_
      have hcd : cdTwo S x y = 1 := by unfold cdTwo; first | (simp [*]; done) | (exfalso; simp_all; done)
      refine m_putI (o := 18) (j := 0) (ji := 0) (CN := RX5) (T := TX5) (N := 19) hC iX5_frozen_5 fX5_frozen_54 rfl dX5_frozen_22 rfl rfl (by decide) rfl tyX5 tyX5_ok nmX5 rfl (by decide +kernel) rfl ?_
      refine m_aload_n hC dX5_frozen_25 0 rfl ?_
      refine m_getI (o := 18) (j := 0) (ji := 0) (CN := RX5) (T := TX5) (N := 19) hC iX5_frozen_5 fX5_frozen_54 rfl dX5_frozen_26 rfl rfl (by decide) rfl rfl ?_
      rw [mset_hit]
      refine m_if_le (tgt := 36) hC dX5_frozen_29 (by decide) (by omega) (fun c_29 => ?_) (fun c_29 => ?_)
      · exfalso; omega
      · refine m_iconst (v := 0) hC dX5_frozen_32 (by decide) ?_
        refine m_goto (tgt := 46) hC dX5_frozen_33 (by decide) ?_
        refine m_iretx hC hR (Or.inl rfl) dX5_frozen_46 ⟨Nat.le_of_ble_eq_true rfl, Nat.le_of_ble_eq_true rfl⟩ ?_
        first | exact RP_bad hcd (by decide) | exact RP_ok hcd (by rw [qo 21 (by decide)]) hS0
    · have b_14 := bI_1 c_14
      have l2 := wasR_in b_14 hg
      refine m_iconst (v := 0) hC dX5_frozen_17 (by decide) ?_
      refine m_goto (tgt := 22) hC dX5_frozen_18 (by decide) ?_
      have hcd : cdTwo S x y = 0 := by unfold cdTwo; first | (simp [*]; done) | (exfalso; simp_all; done)
      refine m_putI (o := 18) (j := 0) (ji := 0) (CN := RX5) (T := TX5) (N := 19) hC iX5_frozen_5 fX5_frozen_54 rfl dX5_frozen_22 rfl rfl (by decide) rfl tyX5 tyX5_ok nmX5 rfl (by decide +kernel) rfl ?_
      refine m_aload_n hC dX5_frozen_25 0 rfl ?_
      refine m_getI (o := 18) (j := 0) (ji := 0) (CN := RX5) (T := TX5) (N := 19) hC iX5_frozen_5 fX5_frozen_54 rfl dX5_frozen_26 rfl rfl (by decide) rfl rfl ?_
      rw [mset_hit]
      refine m_if_le (tgt := 36) hC dX5_frozen_29 (by decide) (by omega) (fun c_29 => ?_) (fun c_29 => ?_)
      · obtain ⟨S0, hS0, hg0, q1, q7, q14, q15, q16, qo⟩ := thr0 S hg
        rw [← hS0]
        refine m_aload_n hC dX5_frozen_36 0 rfl ?_
        refine m_getR (o := 18) (j := 4) (a := 21) (CN := RX5) (T := TX5) (N := 19) hC iX5_frozen_5 fX5_frozen_17 rfl dX5_frozen_37 rfl rfl (by decide) rfl ?_
        refine m_iload_n hC dX5_frozen_40 1 rfl ?_
        refine m_iload_n hC dX5_frozen_41 2 rfl ?_
        refine m_callSi (n := 2) hC (c_X5_at) gX5_frozen_X5_at rfl dX5_frozen_42 (by decide +kernel) ⟨Nat.le_of_ble_eq_true rfl, Nat.le_of_ble_eq_true rfl⟩ rfl (Nat.le_of_ble_eq_true rfl) ⟨Nat.le_of_ble_eq_true rfl, Nat.le_of_ble_eq_true rfl⟩ rfl ?_
        refine m_iaload (o := 21) (n := 81) hC rfl dX5_frozen_45 (ix_lo (by omega) (by omega)) (ix_hi (by omega) (by omega)) (by decide) ?_
        refine m_iretx hC hR (Or.inl rfl) dX5_frozen_46 ⟨Nat.le_of_ble_eq_true rfl, Nat.le_of_ble_eq_true rfl⟩ ?_
        first | exact RP_bad hcd (by decide) | exact RP_ok hcd (by rw [qo 21 (by decide)]) hS0
      · exfalso; omega
theorem iX5_guaranteed_5 : ∀ w ∈ wsX50, w ∈ wsX5_guaranteed := by decide +kernel
theorem fX5_guaranteed_54 : Cond.fieldLink RX5 54 "MutualledgerModel" "thrown" "I" ∈ wsX5_guaranteed := by decide +kernel
theorem fX5_guaranteed_20 : Cond.fieldLink RX5 20 "MutualledgerModel" "guaranteed" "[I" ∈ wsX5_guaranteed := by decide +kernel
set_option maxHeartbeats 4000000 in
set_option maxRecDepth 100000 in
theorem c_X5_guaranteed {g : mG} {S : Mem} {x : Int} (hx : -2147483648 ≤ x ∧ x < 2147483648) {y : Int} (hy : -2147483648 ≤ y ∧ y < 2147483648) (hg : RgR S) (l : Launch) : Does l yX5_guaranteed wsX5_guaranteed ({ frames := 2, cells := 0, slots := 0, locals := 43 } : Room) g [.ref (g.2.2 18), .int (z32 x), .int (z32 y)] S (PIx (fun v S' => RP S (cdTwo S x y) (S 22 (ix x y)) (thr S 0) v S')) := by
  refine Does.of (cc := cX5_guaranteed) (maxL := 3) (ret := (some .int)) (own := RX5) (by decide) rfl rfl (Nat.le_of_ble_eq_true rfl) ?_
  intro C hC hR
  show MW C g 3 (0, 0) 0 [(0, .ref (g.2.2 18)), (1, .int (z32 x)), (2, .int (z32 y))] [] S
  obtain ⟨r1, r2, r3, r4, r5, r6, r7⟩ := id hg
  refine m_aload_n hC dX5_guaranteed_0 0 rfl ?_
  refine m_aload_n hC dX5_guaranteed_1 0 rfl ?_
  refine m_iload_n hC dX5_guaranteed_2 1 rfl ?_
  refine m_callVi (n := 1) hC (c_X5_was hx hg) gX5_guaranteed_X5_was rfl dX5_guaranteed_3 rfl rfl (by decide +kernel) ⟨Nat.le_of_ble_eq_true rfl, Nat.le_of_ble_eq_true rfl⟩ rfl (Nat.le_of_ble_eq_true rfl) ⟨Nat.le_of_ble_eq_true rfl, Nat.le_of_ble_eq_true rfl⟩ rfl ?_
  refine m_if_eq (tgt := 21) hC dX5_guaranteed_6 (by decide) (bI_32 _) (fun c_6 => ?_) (fun c_6 => ?_)
  · have b_6 := bI_0 c_6
    refine m_iconst (v := 1) hC dX5_guaranteed_21 (by decide) ?_
    have hcd : cdTwo S x y = 1 := by unfold cdTwo; first | (simp [*]; done) | (exfalso; simp_all; done)
    refine m_putI (o := 18) (j := 0) (ji := 0) (CN := RX5) (T := TX5) (N := 19) hC iX5_guaranteed_5 fX5_guaranteed_54 rfl dX5_guaranteed_22 rfl rfl (by decide) rfl tyX5 tyX5_ok nmX5 rfl (by decide +kernel) rfl ?_
    refine m_aload_n hC dX5_guaranteed_25 0 rfl ?_
    refine m_getI (o := 18) (j := 0) (ji := 0) (CN := RX5) (T := TX5) (N := 19) hC iX5_guaranteed_5 fX5_guaranteed_54 rfl dX5_guaranteed_26 rfl rfl (by decide) rfl rfl ?_
    rw [mset_hit]
    refine m_if_le (tgt := 36) hC dX5_guaranteed_29 (by decide) (by omega) (fun c_29 => ?_) (fun c_29 => ?_)
    · exfalso; omega
    · refine m_iconst (v := 0) hC dX5_guaranteed_32 (by decide) ?_
      refine m_goto (tgt := 46) hC dX5_guaranteed_33 (by decide) ?_
      refine m_iretx hC hR (Or.inl rfl) dX5_guaranteed_46 ⟨Nat.le_of_ble_eq_true rfl, Nat.le_of_ble_eq_true rfl⟩ ?_
      first | exact RP_bad hcd (by decide) | exact RP_ok hcd (by rw [qo 22 (by decide)]) hS0
  · have b_6 := bI_1 c_6
    have l1 := wasR_in b_6 hg
    refine m_aload_n hC dX5_guaranteed_9 0 rfl ?_
    refine m_iload_n hC dX5_guaranteed_10 2 rfl ?_
    refine m_callVi (n := 1) hC (c_X5_was hy hg) gX5_guaranteed_X5_was rfl dX5_guaranteed_11 rfl rfl (by decide +kernel) ⟨Nat.le_of_ble_eq_true rfl, Nat.le_of_ble_eq_true rfl⟩ rfl (Nat.le_of_ble_eq_true rfl) ⟨Nat.le_of_ble_eq_true rfl, Nat.le_of_ble_eq_true rfl⟩ rfl ?_
    refine m_if_eq (tgt := 21) hC dX5_guaranteed_14 (by decide) (bI_32 _) (fun c_14 => ?_) (fun c_14 => ?_)
    · have b_14 := bI_0 c_14
      refine m_iconst (v := 1) hC dX5_guaranteed_21 (by decide) ?_
      have hcd : cdTwo S x y = 1 := by unfold cdTwo; first | (simp [*]; done) | (exfalso; simp_all; done)
      refine m_putI (o := 18) (j := 0) (ji := 0) (CN := RX5) (T := TX5) (N := 19) hC iX5_guaranteed_5 fX5_guaranteed_54 rfl dX5_guaranteed_22 rfl rfl (by decide) rfl tyX5 tyX5_ok nmX5 rfl (by decide +kernel) rfl ?_
      refine m_aload_n hC dX5_guaranteed_25 0 rfl ?_
      refine m_getI (o := 18) (j := 0) (ji := 0) (CN := RX5) (T := TX5) (N := 19) hC iX5_guaranteed_5 fX5_guaranteed_54 rfl dX5_guaranteed_26 rfl rfl (by decide) rfl rfl ?_
      rw [mset_hit]
      refine m_if_le (tgt := 36) hC dX5_guaranteed_29 (by decide) (by omega) (fun c_29 => ?_) (fun c_29 => ?_)
      · exfalso; omega
      · refine m_iconst (v := 0) hC dX5_guaranteed_32 (by decide) ?_
        refine m_goto (tgt := 46) hC dX5_guaranteed_33 (by decide) ?_
        refine m_iretx hC hR (Or.inl rfl) dX5_guaranteed_46 ⟨Nat.le_of_ble_eq_true rfl, Nat.le_of_ble_eq_true rfl⟩ ?_
        first | exact RP_bad hcd (by decide) | exact RP_ok hcd (by rw [qo 22 (by decide)]) hS0
    · have b_14 := bI_1 c_14
      have l2 := wasR_in b_14 hg
      refine m_iconst (v := 0) hC dX5_guaranteed_17 (by decide) ?_
      refine m_goto (tgt := 22) hC dX5_guaranteed_18 (by decide) ?_
      have hcd : cdTwo S x y = 0 := by unfold cdTwo; first | (simp [*]; done) | (exfalso; simp_all; done)
      refine m_putI (o := 18) (j := 0) (ji := 0) (CN := RX5) (T := TX5) (N := 19) hC iX5_guaranteed_5 fX5_guaranteed_54 rfl dX5_guaranteed_22 rfl rfl (by decide) rfl tyX5 tyX5_ok nmX5 rfl (by decide +kernel) rfl ?_
      refine m_aload_n hC dX5_guaranteed_25 0 rfl ?_
      refine m_getI (o := 18) (j := 0) (ji := 0) (CN := RX5) (T := TX5) (N := 19) hC iX5_guaranteed_5 fX5_guaranteed_54 rfl dX5_guaranteed_26 rfl rfl (by decide) rfl rfl ?_
      rw [mset_hit]
      refine m_if_le (tgt := 36) hC dX5_guaranteed_29 (by decide) (by omega) (fun c_29 => ?_) (fun c_29 => ?_)
      · obtain ⟨S0, hS0, hg0, q1, q7, q14, q15, q16, qo⟩ := thr0 S hg
        rw [← hS0]
        refine m_aload_n hC dX5_guaranteed_36 0 rfl ?_
        refine m_getR (o := 18) (j := 5) (a := 22) (CN := RX5) (T := TX5) (N := 19) hC iX5_guaranteed_5 fX5_guaranteed_20 rfl dX5_guaranteed_37 rfl rfl (by decide) rfl ?_
        refine m_iload_n hC dX5_guaranteed_40 1 rfl ?_
        refine m_iload_n hC dX5_guaranteed_41 2 rfl ?_
        refine m_callSi (n := 2) hC (c_X5_at) gX5_guaranteed_X5_at rfl dX5_guaranteed_42 (by decide +kernel) ⟨Nat.le_of_ble_eq_true rfl, Nat.le_of_ble_eq_true rfl⟩ rfl (Nat.le_of_ble_eq_true rfl) ⟨Nat.le_of_ble_eq_true rfl, Nat.le_of_ble_eq_true rfl⟩ rfl ?_
        refine m_iaload (o := 22) (n := 81) hC rfl dX5_guaranteed_45 (ix_lo (by omega) (by omega)) (ix_hi (by omega) (by omega)) (by decide) ?_
        refine m_iretx hC hR (Or.inl rfl) dX5_guaranteed_46 ⟨Nat.le_of_ble_eq_true rfl, Nat.le_of_ble_eq_true rfl⟩ ?_
        first | exact RP_bad hcd (by decide) | exact RP_ok hcd (by rw [qo 22 (by decide)]) hS0
      · exfalso; omega
theorem iX5_goods_5 : ∀ w ∈ wsX50, w ∈ wsX5_goods := by decide +kernel
theorem fX5_goods_54 : Cond.fieldLink RX5 54 "MutualledgerModel" "thrown" "I" ∈ wsX5_goods := by decide +kernel
theorem fX5_goods_23 : Cond.fieldLink RX5 23 "MutualledgerModel" "goods" "[I" ∈ wsX5_goods := by decide +kernel
set_option maxHeartbeats 4000000 in
set_option maxRecDepth 100000 in
theorem c_X5_goods {g : mG} {S : Mem} {x : Int} (hx : -2147483648 ≤ x ∧ x < 2147483648) (hg : RgR S) (l : Launch) : Does l yX5_goods wsX5_goods ({ frames := 2, cells := 0, slots := 0, locals := 43 } : Room) g [.ref (g.2.2 18), .int (z32 x)] S (PIx (fun v S' => RP S (cdOne S x) (S 23 x) (thr S 0) v S')) := by
  refine Does.of (cc := cX5_goods) (maxL := 2) (ret := (some .int)) (own := RX5) (by decide) rfl rfl (Nat.le_of_ble_eq_true rfl) ?_
  intro C hC hR
  show MW C g 2 (0, 0) 0 [(0, .ref (g.2.2 18)), (1, .int (z32 x))] [] S
  obtain ⟨r1, r2, r3, r4, r5, r6, r7⟩ := id hg
  refine m_aload_n hC dX5_goods_0 0 rfl ?_
  refine m_aload_n hC dX5_goods_1 0 rfl ?_
  refine m_iload_n hC dX5_goods_2 1 rfl ?_
  refine m_callVi (n := 1) hC (c_X5_was hx hg) gX5_goods_X5_was rfl dX5_goods_3 rfl rfl (by decide +kernel) ⟨Nat.le_of_ble_eq_true rfl, Nat.le_of_ble_eq_true rfl⟩ rfl (Nat.le_of_ble_eq_true rfl) ⟨Nat.le_of_ble_eq_true rfl, Nat.le_of_ble_eq_true rfl⟩ rfl ?_
  refine m_if_eq (tgt := 13) hC dX5_goods_6 (by decide) (bI_32 _) (fun c_6 => ?_) (fun c_6 => ?_)
  · have b_6 := bI_0 c_6
    refine m_iconst (v := 1) hC dX5_goods_13 (by decide) ?_
    have hcd : cdOne S x = 1 := by unfold cdOne; first | (simp [*]; done) | (exfalso; simp_all; done)
    refine m_putI (o := 18) (j := 0) (ji := 0) (CN := RX5) (T := TX5) (N := 19) hC iX5_goods_5 fX5_goods_54 rfl dX5_goods_14 rfl rfl (by decide) rfl tyX5 tyX5_ok nmX5 rfl (by decide +kernel) rfl ?_
    refine m_aload_n hC dX5_goods_17 0 rfl ?_
    refine m_getI (o := 18) (j := 0) (ji := 0) (CN := RX5) (T := TX5) (N := 19) hC iX5_goods_5 fX5_goods_54 rfl dX5_goods_18 rfl rfl (by decide) rfl rfl ?_
    rw [mset_hit]
    refine m_if_le (tgt := 28) hC dX5_goods_21 (by decide) (by omega) (fun c_21 => ?_) (fun c_21 => ?_)
    · exfalso; omega
    · refine m_iconst (v := 0) hC dX5_goods_24 (by decide) ?_
      refine m_goto (tgt := 34) hC dX5_goods_25 (by decide) ?_
      refine m_iretx hC hR (Or.inl rfl) dX5_goods_34 ⟨Nat.le_of_ble_eq_true rfl, Nat.le_of_ble_eq_true rfl⟩ ?_
      first | exact RP_bad hcd (by decide) | exact RP_ok hcd (by rw [qo 23 (by decide)]) hS0
  · have b_6 := bI_1 c_6
    have l1 := wasR_in b_6 hg
    refine m_iconst (v := 0) hC dX5_goods_9 (by decide) ?_
    refine m_goto (tgt := 14) hC dX5_goods_10 (by decide) ?_
    have hcd : cdOne S x = 0 := by unfold cdOne; first | (simp [*]; done) | (exfalso; simp_all; done)
    refine m_putI (o := 18) (j := 0) (ji := 0) (CN := RX5) (T := TX5) (N := 19) hC iX5_goods_5 fX5_goods_54 rfl dX5_goods_14 rfl rfl (by decide) rfl tyX5 tyX5_ok nmX5 rfl (by decide +kernel) rfl ?_
    refine m_aload_n hC dX5_goods_17 0 rfl ?_
    refine m_getI (o := 18) (j := 0) (ji := 0) (CN := RX5) (T := TX5) (N := 19) hC iX5_goods_5 fX5_goods_54 rfl dX5_goods_18 rfl rfl (by decide) rfl rfl ?_
    rw [mset_hit]
    refine m_if_le (tgt := 28) hC dX5_goods_21 (by decide) (by omega) (fun c_21 => ?_) (fun c_21 => ?_)
    · obtain ⟨S0, hS0, hg0, q1, q7, q14, q15, q16, qo⟩ := thr0 S hg
      rw [← hS0]
      refine m_aload_n hC dX5_goods_28 0 rfl ?_
      refine m_getR (o := 18) (j := 6) (a := 23) (CN := RX5) (T := TX5) (N := 19) hC iX5_goods_5 fX5_goods_23 rfl dX5_goods_29 rfl rfl (by decide) rfl ?_
      refine m_iload_n hC dX5_goods_32 1 rfl ?_
      refine m_iaload (o := 23) (n := 8) hC rfl dX5_goods_33 (by omega) (by omega) (by decide) ?_
      refine m_iretx hC hR (Or.inl rfl) dX5_goods_34 ⟨Nat.le_of_ble_eq_true rfl, Nat.le_of_ble_eq_true rfl⟩ ?_
      first | exact RP_bad hcd (by decide) | exact RP_ok hcd (by rw [qo 23 (by decide)]) hS0
    · exfalso; omega
theorem iX5_isIdle_5 : ∀ w ∈ wsX50, w ∈ wsX5_isIdle := by decide +kernel
theorem fX5_isIdle_54 : Cond.fieldLink RX5 54 "MutualledgerModel" "thrown" "I" ∈ wsX5_isIdle := by decide +kernel
set_option maxHeartbeats 4000000 in
set_option maxRecDepth 100000 in
theorem c_X5_isIdle {g : mG} {S : Mem} {x : Int} (hx : -2147483648 ≤ x ∧ x < 2147483648) (hg : RgR S) (hok : OkD (S 20)) (hgu : OkD (S 22)) (hfz : Fz (S 20) (S 21)) (l : Launch) : Does l yX5_isIdle wsX5_isIdle ({ frames := 3, cells := 0, slots := 0, locals := 67 } : Room) g [.ref (g.2.2 18), .int (z32 x)] S (PIx (fun v S' => RP S (cdLim S x) (bI (lazR S x)) (thr S 0) v S')) := by
  refine Does.of (cc := cX5_isIdle) (maxL := 2) (ret := (some .boolean)) (own := RX5) (by decide) rfl rfl (Nat.le_of_ble_eq_true rfl) ?_
  intro C hC hR
  show MW C g 2 (0, 0) 0 [(0, .ref (g.2.2 18)), (1, .int (z32 x))] [] S
  obtain ⟨r1, r2, r3, r4, r5, r6, r7⟩ := id hg
  refine m_aload_n hC dX5_isIdle_0 0 rfl ?_
  refine m_aload_n hC dX5_isIdle_1 0 rfl ?_
  refine m_iload_n hC dX5_isIdle_2 1 rfl ?_
  refine m_callVi (n := 1) hC (c_X5_isShop hx hg) gX5_isIdle_X5_isShop rfl dX5_isIdle_3 rfl rfl (by decide +kernel) ⟨Nat.le_of_ble_eq_true rfl, Nat.le_of_ble_eq_true rfl⟩ rfl (Nat.le_of_ble_eq_true rfl) ⟨Nat.le_of_ble_eq_true rfl, Nat.le_of_ble_eq_true rfl⟩ rfl ?_
  refine m_if_eq (tgt := 13) hC dX5_isIdle_6 (by decide) (bI_32 _) (fun c_6 => ?_) (fun c_6 => ?_)
  · have b_6 := bI_0 c_6
    refine m_iconst (v := 1) hC dX5_isIdle_13 (by decide) ?_
    have hcd : cdLim S x = 1 := by unfold cdLim; first | (simp [*]; done) | (exfalso; simp_all; done)
    refine m_putI (o := 18) (j := 0) (ji := 0) (CN := RX5) (T := TX5) (N := 19) hC iX5_isIdle_5 fX5_isIdle_54 rfl dX5_isIdle_14 rfl rfl (by decide) rfl tyX5 tyX5_ok nmX5 rfl (by decide +kernel) rfl ?_
    refine m_aload_n hC dX5_isIdle_17 0 rfl ?_
    refine m_getI (o := 18) (j := 0) (ji := 0) (CN := RX5) (T := TX5) (N := 19) hC iX5_isIdle_5 fX5_isIdle_54 rfl dX5_isIdle_18 rfl rfl (by decide) rfl rfl ?_
    rw [mset_hit]
    refine m_if_ne (tgt := 36) hC dX5_isIdle_21 (by decide) (by omega) (fun c_21 => ?_) (fun c_21 => ?_)
    · refine m_iconst (v := 0) hC dX5_isIdle_36 (by decide) ?_
      refine m_iretx hC hR (Or.inr ⟨rfl, by first | exact Or.inl rfl | exact Or.inr rfl | omega⟩) dX5_isIdle_37 ⟨Nat.le_of_ble_eq_true rfl, Nat.le_of_ble_eq_true rfl⟩ ?_
      first | exact RP_bad hcd (by decide) | exact RP_ok hcd (by rw [show lazR S x = lazR S0 x by rw [hS0]; rfl, b_29]; rfl) hS0
    · exfalso; omega
  · have b_6 := bI_1 c_6
    have l1 := livR_in b_6 hg
    refine m_iconst (v := 0) hC dX5_isIdle_9 (by decide) ?_
    refine m_goto (tgt := 14) hC dX5_isIdle_10 (by decide) ?_
    have hcd : cdLim S x = 0 := by unfold cdLim; first | (simp [*]; done) | (exfalso; simp_all; done)
    refine m_putI (o := 18) (j := 0) (ji := 0) (CN := RX5) (T := TX5) (N := 19) hC iX5_isIdle_5 fX5_isIdle_54 rfl dX5_isIdle_14 rfl rfl (by decide) rfl tyX5 tyX5_ok nmX5 rfl (by decide +kernel) rfl ?_
    refine m_aload_n hC dX5_isIdle_17 0 rfl ?_
    refine m_getI (o := 18) (j := 0) (ji := 0) (CN := RX5) (T := TX5) (N := 19) hC iX5_isIdle_5 fX5_isIdle_54 rfl dX5_isIdle_18 rfl rfl (by decide) rfl rfl ?_
    rw [mset_hit]
    refine m_if_ne (tgt := 36) hC dX5_isIdle_21 (by decide) (by omega) (fun c_21 => ?_) (fun c_21 => ?_)
    · exfalso; omega
    · obtain ⟨S0, hS0, hg0, q1, q7, q14, q15, q16, qo⟩ := thr0 S hg
      rw [← hS0]
      refine m_aload_n hC dX5_isIdle_24 0 rfl ?_
      refine m_iload_n hC dX5_isIdle_25 1 rfl ?_
      refine m_callVi (n := 1) hC (c_X5_isLazy (by omega) hg0 (by rw [qo 20 (by decide)]; exact hok.1)) gX5_isIdle_X5_isLazy rfl dX5_isIdle_26 rfl rfl (by decide +kernel) ⟨Nat.le_of_ble_eq_true rfl, Nat.le_of_ble_eq_true rfl⟩ rfl (Nat.le_of_ble_eq_true rfl) ⟨Nat.le_of_ble_eq_true rfl, Nat.le_of_ble_eq_true rfl⟩ rfl ?_
      refine m_if_eq (tgt := 36) hC dX5_isIdle_29 (by decide) (bI_32 _) (fun c_29 => ?_) (fun c_29 => ?_)
      · have b_29 := bI_0 c_29
        refine m_iconst (v := 0) hC dX5_isIdle_36 (by decide) ?_
        refine m_iretx hC hR (Or.inr ⟨rfl, by first | exact Or.inl rfl | exact Or.inr rfl | omega⟩) dX5_isIdle_37 ⟨Nat.le_of_ble_eq_true rfl, Nat.le_of_ble_eq_true rfl⟩ ?_
        first | exact RP_bad hcd (by decide) | exact RP_ok hcd (by rw [show lazR S x = lazR S0 x by rw [hS0]; rfl, b_29]; rfl) hS0
      · have b_29 := bI_1 c_29
        refine m_iconst (v := 1) hC dX5_isIdle_32 (by decide) ?_
        refine m_goto (tgt := 37) hC dX5_isIdle_33 (by decide) ?_
        refine m_iretx hC hR (Or.inr ⟨rfl, by first | exact Or.inl rfl | exact Or.inr rfl | omega⟩) dX5_isIdle_37 ⟨Nat.le_of_ble_eq_true rfl, Nat.le_of_ble_eq_true rfl⟩ ?_
        first | exact RP_bad hcd (by decide) | exact RP_ok hcd (by rw [show lazR S x = lazR S0 x by rw [hS0]; rfl, b_29]; rfl) hS0
theorem iX5_rings_5 : ∀ w ∈ wsX50, w ∈ wsX5_rings := by decide +kernel
theorem fX5_rings_54 : Cond.fieldLink RX5 54 "MutualledgerModel" "thrown" "I" ∈ wsX5_rings := by decide +kernel
theorem fX5_rings_127 : Cond.fieldLink RX5 127 "MutualledgerModel" "rings" "I" ∈ wsX5_rings := by decide +kernel
set_option maxHeartbeats 4000000 in
set_option maxRecDepth 100000 in
theorem c_X5_rings {g : mG} {S : Mem} (hg : RgR S) (l : Launch) : Does l yX5_rings wsX5_rings ({ frames := 0, cells := 0, slots := 0, locals := 0 } : Room) g [.ref (g.2.2 18)] S (PI (S 18 16) (thr S 0)) := by
  refine Does.of (cc := cX5_rings) (maxL := 1) (ret := (some .int)) (own := RX5) (by decide) rfl rfl (Nat.le_of_ble_eq_true rfl) ?_
  intro C hC hR
  show MW C g 1 (0, 0) 0 [(0, .ref (g.2.2 18))] [] S
  refine m_aload_n hC dX5_rings_0 0 rfl ?_
  refine m_iconst (v := 0) hC dX5_rings_1 (by decide) ?_
  refine m_putI (o := 18) (j := 0) (ji := 0) (CN := RX5) (T := TX5) (N := 19) hC iX5_rings_5 fX5_rings_54 rfl dX5_rings_2 rfl rfl (by decide) rfl tyX5 tyX5_ok nmX5 rfl (by decide +kernel) rfl ?_
  refine m_aload_n hC dX5_rings_5 0 rfl ?_
  refine m_getI (o := 18) (j := 16) (ji := 16) (CN := RX5) (T := TX5) (N := 19) hC iX5_rings_5 fX5_rings_127 rfl dX5_rings_6 rfl rfl (by decide) rfl rfl ?_
  try simp (decide := true) only [mset_o, mset_hit]
  refine m_ireti hC hR (Or.inl rfl) dX5_rings_9 ⟨Nat.le_of_ble_eq_true rfl, Nat.le_of_ble_eq_true rfl⟩ ?_ ?_
  · rfl
  · rfl
theorem iX5_ring_5 : ∀ w ∈ wsX50, w ∈ wsX5_ring := by decide +kernel
theorem fX5_ring_127 : Cond.fieldLink RX5 127 "MutualledgerModel" "rings" "I" ∈ wsX5_ring := by decide +kernel
theorem fX5_ring_54 : Cond.fieldLink RX5 54 "MutualledgerModel" "thrown" "I" ∈ wsX5_ring := by decide +kernel
theorem fX5_ring_48 : Cond.fieldLink RX5 48 "MutualledgerModel" "ring" "[I" ∈ wsX5_ring := by decide +kernel
set_option maxHeartbeats 4000000 in
set_option maxRecDepth 100000 in
theorem c_X5_ring {g : mG} {S : Mem} {r : Int} (hr : -2147483648 ≤ r ∧ r < 2147483648) {w : Int} (hw : -2147483648 ≤ w ∧ w < 2147483648) (hg : RgR S) (l : Launch) : Does l yX5_ring wsX5_ring ({ frames := 1, cells := 0, slots := 0, locals := 22 } : Room) g [.ref (g.2.2 18), .int (z32 r), .int (z32 w)] S (PIx (fun v S' => RP S (cdRing S r w) (S 30 (rix r w)) (thr S 0) v S')) := by
  refine Does.of (cc := cX5_ring) (maxL := 3) (ret := (some .int)) (own := RX5) (by decide) rfl rfl (Nat.le_of_ble_eq_true rfl) ?_
  intro C hC hR
  show MW C g 3 (0, 0) 0 [(0, .ref (g.2.2 18)), (1, .int (z32 r)), (2, .int (z32 w))] [] S
  obtain ⟨r1, r2, r3, r4, r5, r6, r7⟩ := id hg
  refine m_aload_n hC dX5_ring_0 0 rfl ?_
  refine m_iload_n hC dX5_ring_1 1 rfl ?_
  refine m_iconst (v := 0) hC dX5_ring_2 (by decide) ?_
  refine m_aload_n hC dX5_ring_3 0 rfl ?_
  refine m_getI (o := 18) (j := 16) (ji := 16) (CN := RX5) (T := TX5) (N := 19) hC iX5_ring_5 fX5_ring_127 rfl dX5_ring_4 rfl rfl (by decide) rfl rfl ?_
  try simp (decide := true) only [mset_o, mset_hit]
  refine m_iconst (v := 1) hC dX5_ring_7 (by decide) ?_
  refine m_isub hC dX5_ring_8 ?_
  refine m_callSi (n := 3) hC (c_X5_in hr (by omega) (by omega)) gX5_ring_X5_in rfl dX5_ring_9 (by decide +kernel) ⟨Nat.le_of_ble_eq_true rfl, Nat.le_of_ble_eq_true rfl⟩ rfl (Nat.le_of_ble_eq_true rfl) ⟨Nat.le_of_ble_eq_true rfl, Nat.le_of_ble_eq_true rfl⟩ rfl ?_
  refine m_if_ne (tgt := 19) hC dX5_ring_12 (by decide) (bI_32 _) (fun c_12 => ?_) (fun c_12 => ?_)
  · have b_12 := bI_1 c_12
    have l1 := of_decide_eq_true b_12
    have l1b : decide (0 ≤ r ∧ r < S 18 16) = true := decide_eq_true (by omega)
    refine m_iload_n hC dX5_ring_19 2 rfl ?_
    refine m_iconst (v := 0) hC dX5_ring_20 (by decide) ?_
    refine m_bipush (v := 6) hC dX5_ring_21 (by decide) ?_
    refine m_callSi (n := 3) hC (c_X5_in hw (by omega) (by omega)) gX5_ring_X5_in rfl dX5_ring_23 (by decide +kernel) ⟨Nat.le_of_ble_eq_true rfl, Nat.le_of_ble_eq_true rfl⟩ rfl (Nat.le_of_ble_eq_true rfl) ⟨Nat.le_of_ble_eq_true rfl, Nat.le_of_ble_eq_true rfl⟩ rfl ?_
    refine m_if_eq (tgt := 33) hC dX5_ring_26 (by decide) (bI_32 _) (fun c_26 => ?_) (fun c_26 => ?_)
    · have b_26 := bI_0 c_26
      refine m_iconst (v := 2) hC dX5_ring_33 (by decide) ?_
      have hcd : cdRing S r w = 2 := by unfold cdRing; simp only [l1b]; first | rfl | (simp only [b_26]; rfl)
      refine m_putI (o := 18) (j := 0) (ji := 0) (CN := RX5) (T := TX5) (N := 19) hC iX5_ring_5 fX5_ring_54 rfl dX5_ring_34 rfl rfl (by decide) rfl tyX5 tyX5_ok nmX5 rfl (by decide +kernel) rfl ?_
      refine m_aload_n hC dX5_ring_37 0 rfl ?_
      refine m_getI (o := 18) (j := 0) (ji := 0) (CN := RX5) (T := TX5) (N := 19) hC iX5_ring_5 fX5_ring_54 rfl dX5_ring_38 rfl rfl (by decide) rfl rfl ?_
      rw [mset_hit]
      refine m_if_le (tgt := 48) hC dX5_ring_41 (by decide) (by omega) (fun c_41 => ?_) (fun c_41 => ?_)
      · exfalso; omega
      · refine m_iconst (v := 0) hC dX5_ring_44 (by decide) ?_
        refine m_goto (tgt := 59) hC dX5_ring_45 (by decide) ?_
        refine m_iretx hC hR (Or.inl rfl) dX5_ring_59 ⟨Nat.le_of_ble_eq_true rfl, Nat.le_of_ble_eq_true rfl⟩ ?_
        first | exact RP_bad hcd (by decide) | exact RP_ok hcd (by rw [qo 30 (by decide)]; rfl) hS0
    · have b_26 := bI_1 c_26
      have l2 := of_decide_eq_true b_26
      refine m_iconst (v := 0) hC dX5_ring_29 (by decide) ?_
      refine m_goto (tgt := 34) hC dX5_ring_30 (by decide) ?_
      have hcd : cdRing S r w = 0 := by unfold cdRing; simp only [l1b]; first | rfl | (simp only [b_26]; rfl)
      refine m_putI (o := 18) (j := 0) (ji := 0) (CN := RX5) (T := TX5) (N := 19) hC iX5_ring_5 fX5_ring_54 rfl dX5_ring_34 rfl rfl (by decide) rfl tyX5 tyX5_ok nmX5 rfl (by decide +kernel) rfl ?_
      refine m_aload_n hC dX5_ring_37 0 rfl ?_
      refine m_getI (o := 18) (j := 0) (ji := 0) (CN := RX5) (T := TX5) (N := 19) hC iX5_ring_5 fX5_ring_54 rfl dX5_ring_38 rfl rfl (by decide) rfl rfl ?_
      rw [mset_hit]
      refine m_if_le (tgt := 48) hC dX5_ring_41 (by decide) (by omega) (fun c_41 => ?_) (fun c_41 => ?_)
      · obtain ⟨S0, hS0, hg0, q1, q7, q14, q15, q16, qo⟩ := thr0 S hg
        rw [← hS0]
        refine m_aload_n hC dX5_ring_48 0 rfl ?_
        refine m_getR (o := 18) (j := 17) (a := 30) (CN := RX5) (T := TX5) (N := 19) hC iX5_ring_5 fX5_ring_48 rfl dX5_ring_49 rfl rfl (by decide) rfl ?_
        refine m_bipush (v := 7) hC dX5_ring_52 (by decide) ?_
        refine m_iload_n hC dX5_ring_54 1 rfl ?_
        refine m_imul hC dX5_ring_55 ?_
        refine m_iload_n hC dX5_ring_56 2 rfl ?_
        refine m_iadd hC dX5_ring_57 ?_
        refine m_iaload (o := 30) (n := 700) hC rfl dX5_ring_58 (by omega) (by omega) (by decide) ?_
        refine m_iretx hC hR (Or.inl rfl) dX5_ring_59 ⟨Nat.le_of_ble_eq_true rfl, Nat.le_of_ble_eq_true rfl⟩ ?_
        first | exact RP_bad hcd (by decide) | exact RP_ok hcd (by rw [qo 30 (by decide)]; rfl) hS0
      · exfalso; omega
  · have b_12 := bI_0 (Decidable.of_not_not c_12)
    have l1 := of_decide_eq_false b_12
    have l1b : decide (0 ≤ r ∧ r < S 18 16) = false := decide_eq_false (by omega)
    refine m_iconst (v := 1) hC dX5_ring_15 (by decide) ?_
    refine m_goto (tgt := 34) hC dX5_ring_16 (by decide) ?_
    have hcd : cdRing S r w = 1 := by unfold cdRing; simp only [l1b]; first | rfl | (simp only [b_26]; rfl)
    refine m_putI (o := 18) (j := 0) (ji := 0) (CN := RX5) (T := TX5) (N := 19) hC iX5_ring_5 fX5_ring_54 rfl dX5_ring_34 rfl rfl (by decide) rfl tyX5 tyX5_ok nmX5 rfl (by decide +kernel) rfl ?_
    refine m_aload_n hC dX5_ring_37 0 rfl ?_
    refine m_getI (o := 18) (j := 0) (ji := 0) (CN := RX5) (T := TX5) (N := 19) hC iX5_ring_5 fX5_ring_54 rfl dX5_ring_38 rfl rfl (by decide) rfl rfl ?_
    rw [mset_hit]
    refine m_if_le (tgt := 48) hC dX5_ring_41 (by decide) (by omega) (fun c_41 => ?_) (fun c_41 => ?_)
    · exfalso; omega
    · refine m_iconst (v := 0) hC dX5_ring_44 (by decide) ?_
      refine m_goto (tgt := 59) hC dX5_ring_45 (by decide) ?_
      refine m_iretx hC hR (Or.inl rfl) dX5_ring_59 ⟨Nat.le_of_ble_eq_true rfl, Nat.le_of_ble_eq_true rfl⟩ ?_
      first | exact RP_bad hcd (by decide) | exact RP_ok hcd (by rw [qo 30 (by decide)]; rfl) hS0
