/-! ===== the reference: ofTrade, leave, night ===== -/
section
variable {C : mX} {own : String} {cc : ByteArray} {nL : Nat} {Ts : List Cond} {rm : Room} {g : mG} {k : Nat × Nat} {pc : Nat} {lv : List (Nat × Value)} {st : List Value} {S : Mem}
theorem m_tableOut (hC : mCtx C own cc nL Ts rm g) {dflt lo hi : Int} {offs : Array Int} {len : Nat} {x : Int} {tgt : Nat} (hd : decode cc pc = .ok (.tableswitch dflt lo hi offs, len)) (hx0 : -2147483648 ≤ x ∧ x < 2147483648) (h : x < lo ∨ hi < x) (ht : (pc : Int) + dflt = (tgt : Int)) (kk : MW C g nL k tgt lv st S) : MW C g nL k pc lv (.int (z32 x) :: st) S := by
  obtain ⟨p, l, e, R, s, m, args, below, meth, c, Q, A⟩ := C
  obtain ⟨hx, hb, hml, hown, hts, hK, hD, hA, hlk, hR⟩ := hC
  intro H locs ls hl hP hS
  exact lv_tableOut hx hb hd (by rw [z32_toInt hx0]; exact h) ht (kk H locs ls hl hP hS)
theorem m_tableIn (hC : mCtx C own cc nL Ts rm g) {dflt lo hi : Int} {offs : Array Int} {len : Nat} {x off : Int} {tgt : Nat} (hd : decode cc pc = .ok (.tableswitch dflt lo hi offs, len)) (hx0 : -2147483648 ≤ x ∧ x < 2147483648) (h1 : ¬ x < lo) (h2 : ¬ hi < x) (ho : offs[(x - lo).toNat]? = some off) (ht : (pc : Int) + off = (tgt : Int)) (kk : MW C g nL k tgt lv st S) : MW C g nL k pc lv (.int (z32 x) :: st) S := by
  obtain ⟨p, l, e, R, s, m, args, below, meth, c, Q, A⟩ := C
  obtain ⟨hx, hb, hml, hown, hts, hK, hD, hA, hlk, hR⟩ := hC
  intro H locs ls hl hP hS
  exact lv_tableIn hx hb hd (by rw [z32_toInt hx0]; exact h1) (by rw [z32_toInt hx0]; exact h2) (by rw [z32_toInt hx0]; exact ho) ht (kk H locs ls hl hP hS)
end
theorem iX5_ofTrade_5 : ∀ w ∈ wsX50, w ∈ wsX5_ofTrade := by decide +kernel
theorem fX5_ofTrade_54 : Cond.fieldLink RX5 54 "MutualledgerModel" "thrown" "I" ∈ wsX5_ofTrade := by decide +kernel
theorem fX5_ofTrade_38 : Cond.fieldLink RX5 38 "MutualledgerModel" "state" "[I" ∈ wsX5_ofTrade := by decide +kernel
theorem fX5_ofTrade_26 : Cond.fieldLink RX5 26 "MutualledgerModel" "buyer" "[I" ∈ wsX5_ofTrade := by decide +kernel
theorem fX5_ofTrade_29 : Cond.fieldLink RX5 29 "MutualledgerModel" "seller" "[I" ∈ wsX5_ofTrade := by decide +kernel
theorem fX5_ofTrade_32 : Cond.fieldLink RX5 32 "MutualledgerModel" "amount" "[I" ∈ wsX5_ofTrade := by decide +kernel
theorem fX5_ofTrade_35 : Cond.fieldLink RX5 35 "MutualledgerModel" "day" "[I" ∈ wsX5_ofTrade := by decide +kernel
theorem fX5_ofTrade_41 : Cond.fieldLink RX5 41 "MutualledgerModel" "part" "[I" ∈ wsX5_ofTrade := by decide +kernel
set_option maxHeartbeats 4000000 in
set_option maxRecDepth 100000 in
theorem c_X5_ofTrade {g : mG} {S : Mem} {t : Int} (ht : -2147483648 ≤ t ∧ t < 2147483648) {w : Int} (hw : -2147483648 ≤ w ∧ w < 2147483648) (hg : RgR S) (l : Launch) : Does l yX5_ofTrade wsX5_ofTrade ({ frames := 2, cells := 0, slots := 0, locals := 43 } : Room) g [.ref (g.2.2 18), .int (z32 t), .int (z32 w)] S (PIx (fun v S' => RP S (cdOfT S t w) (ofT S t w) (thr S 0) v S')) := by
  refine Does.of (cc := cX5_ofTrade) (maxL := 3) (ret := (some .int)) (own := RX5) (by decide) rfl rfl (Nat.le_of_ble_eq_true rfl) ?_
  intro C hC hR
  show MW C g 3 (0, 0) 0 [(0, .ref (g.2.2 18)), (1, .int (z32 t)), (2, .int (z32 w))] [] S
  obtain ⟨r1, r2, r3, r4, r5, r6, r7⟩ := id hg
  refine m_aload_n hC dX5_ofTrade_0 0 rfl ?_
  refine m_aload_n hC dX5_ofTrade_1 0 rfl ?_
  refine m_iload_n hC dX5_ofTrade_2 1 rfl ?_
  refine m_callVi (n := 1) hC (c_X5_isTrade ht hg) gX5_ofTrade_X5_isTrade rfl dX5_ofTrade_3 rfl rfl (by decide +kernel) ⟨Nat.le_of_ble_eq_true rfl, Nat.le_of_ble_eq_true rfl⟩ rfl (Nat.le_of_ble_eq_true rfl) ⟨Nat.le_of_ble_eq_true rfl, Nat.le_of_ble_eq_true rfl⟩ rfl ?_
  refine m_if_ne (tgt := 13) hC dX5_ofTrade_6 (by decide) (bI_32 _) (fun c_6 => ?_) (fun c_6 => ?_)
  · have b_6 := bI_1 c_6
    have l1 := trR_in b_6 hg
    refine m_iload_n hC dX5_ofTrade_13 2 rfl ?_
    refine m_iconst (v := 0) hC dX5_ofTrade_14 (by decide) ?_
    refine m_iconst (v := 5) hC dX5_ofTrade_15 (by decide) ?_
    refine m_callSi (n := 3) hC (c_X5_in hw (by omega) (by omega)) gX5_ofTrade_X5_in rfl dX5_ofTrade_16 (by decide +kernel) ⟨Nat.le_of_ble_eq_true rfl, Nat.le_of_ble_eq_true rfl⟩ rfl (Nat.le_of_ble_eq_true rfl) ⟨Nat.le_of_ble_eq_true rfl, Nat.le_of_ble_eq_true rfl⟩ rfl ?_
    refine m_if_eq (tgt := 26) hC dX5_ofTrade_19 (by decide) (bI_32 _) (fun c_19 => ?_) (fun c_19 => ?_)
    · have b_19 := bI_0 c_19
      refine m_iconst (v := 2) hC dX5_ofTrade_26 (by decide) ?_
      have hcd : cdOfT S t w = 2 := by unfold cdOfT; first | (rw [b_6]; rfl) | (simp only [b_6, b_19]; rfl)
      refine m_putI (o := 18) (j := 0) (ji := 0) (CN := RX5) (T := TX5) (N := 19) hC iX5_ofTrade_5 fX5_ofTrade_54 rfl dX5_ofTrade_27 rfl rfl (by decide) rfl tyX5 tyX5_ok nmX5 rfl (by decide +kernel) rfl ?_
      refine m_aload_n hC dX5_ofTrade_30 0 rfl ?_
      refine m_getI (o := 18) (j := 0) (ji := 0) (CN := RX5) (T := TX5) (N := 19) hC iX5_ofTrade_5 fX5_ofTrade_54 rfl dX5_ofTrade_31 rfl rfl (by decide) rfl rfl ?_
      rw [mset_hit]
      refine m_if_le (tgt := 39) hC dX5_ofTrade_34 (by decide) (by omega) (fun c_34 => ?_) (fun c_34 => ?_)
      · exfalso; omega
      · refine m_iconst (v := 0) hC dX5_ofTrade_37 (by decide) ?_
        refine m_iretx hC hR (Or.inl rfl) dX5_ofTrade_38 ⟨Nat.le_of_ble_eq_true rfl, Nat.le_of_ble_eq_true rfl⟩ ?_
        exact RP_bad hcd (by decide)
    · have b_19 := bI_1 c_19
      have l2 := of_decide_eq_true b_19
      refine m_iconst (v := 0) hC dX5_ofTrade_22 (by decide) ?_
      refine m_goto (tgt := 27) hC dX5_ofTrade_23 (by decide) ?_
      have hcd : cdOfT S t w = 0 := by unfold cdOfT; first | (rw [b_6]; rfl) | (simp only [b_6, b_19]; rfl)
      refine m_putI (o := 18) (j := 0) (ji := 0) (CN := RX5) (T := TX5) (N := 19) hC iX5_ofTrade_5 fX5_ofTrade_54 rfl dX5_ofTrade_27 rfl rfl (by decide) rfl tyX5 tyX5_ok nmX5 rfl (by decide +kernel) rfl ?_
      refine m_aload_n hC dX5_ofTrade_30 0 rfl ?_
      refine m_getI (o := 18) (j := 0) (ji := 0) (CN := RX5) (T := TX5) (N := 19) hC iX5_ofTrade_5 fX5_ofTrade_54 rfl dX5_ofTrade_31 rfl rfl (by decide) rfl rfl ?_
      rw [mset_hit]
      refine m_if_le (tgt := 39) hC dX5_ofTrade_34 (by decide) (by omega) (fun c_34 => ?_) (fun c_34 => ?_)
      · obtain ⟨S0, hS0, hg0, q1, q7, q14, q15, q16, qo⟩ := thr0 S hg
        rw [← hS0]
        refine m_iload_n hC dX5_ofTrade_39 2 rfl ?_
        by_cases cw_0 : w = 0
        · refine m_tableIn (tgt := 76) hC dX5_ofTrade_40 (by omega) (by omega) (by omega) (by rw [cw_0]; rfl) (by decide) ?_
          refine m_aload_n hC dX5_ofTrade_76 0 rfl ?_
          refine m_getR (o := 18) (j := 12) (a := 28) (CN := RX5) (T := TX5) (N := 19) hC iX5_ofTrade_5 fX5_ofTrade_38 rfl dX5_ofTrade_77 rfl rfl (by decide) rfl ?_
          refine m_iload_n hC dX5_ofTrade_80 1 rfl ?_
          refine m_iaload (o := 28) (n := 100) hC rfl dX5_ofTrade_81 (by omega) (by omega) (by decide) ?_
          refine m_iretx hC hR (Or.inl rfl) dX5_ofTrade_82 ⟨Nat.le_of_ble_eq_true rfl, Nat.le_of_ble_eq_true rfl⟩ ?_
          exact RP_ok hcd (by rw [hS0]; unfold ofT; rw [if_pos cw_0]; rfl) hS0
        by_cases cw_1 : w = 1
        · refine m_tableIn (tgt := 83) hC dX5_ofTrade_40 (by omega) (by omega) (by omega) (by rw [cw_1]; rfl) (by decide) ?_
          refine m_aload_n hC dX5_ofTrade_83 0 rfl ?_
          refine m_getR (o := 18) (j := 8) (a := 24) (CN := RX5) (T := TX5) (N := 19) hC iX5_ofTrade_5 fX5_ofTrade_26 rfl dX5_ofTrade_84 rfl rfl (by decide) rfl ?_
          refine m_iload_n hC dX5_ofTrade_87 1 rfl ?_
          refine m_iaload (o := 24) (n := 100) hC rfl dX5_ofTrade_88 (by omega) (by omega) (by decide) ?_
          refine m_iretx hC hR (Or.inl rfl) dX5_ofTrade_89 ⟨Nat.le_of_ble_eq_true rfl, Nat.le_of_ble_eq_true rfl⟩ ?_
          exact RP_ok hcd (by rw [hS0]; unfold ofT; rw [if_neg cw_0, if_pos cw_1]; rfl) hS0
        by_cases cw_2 : w = 2
        · refine m_tableIn (tgt := 90) hC dX5_ofTrade_40 (by omega) (by omega) (by omega) (by rw [cw_2]; rfl) (by decide) ?_
          refine m_aload_n hC dX5_ofTrade_90 0 rfl ?_
          refine m_getR (o := 18) (j := 9) (a := 25) (CN := RX5) (T := TX5) (N := 19) hC iX5_ofTrade_5 fX5_ofTrade_29 rfl dX5_ofTrade_91 rfl rfl (by decide) rfl ?_
          refine m_iload_n hC dX5_ofTrade_94 1 rfl ?_
          refine m_iaload (o := 25) (n := 100) hC rfl dX5_ofTrade_95 (by omega) (by omega) (by decide) ?_
          refine m_iretx hC hR (Or.inl rfl) dX5_ofTrade_96 ⟨Nat.le_of_ble_eq_true rfl, Nat.le_of_ble_eq_true rfl⟩ ?_
          exact RP_ok hcd (by rw [hS0]; unfold ofT; rw [if_neg cw_0, if_neg cw_1, if_pos cw_2]; rfl) hS0
        by_cases cw_3 : w = 3
        · refine m_tableIn (tgt := 97) hC dX5_ofTrade_40 (by omega) (by omega) (by omega) (by rw [cw_3]; rfl) (by decide) ?_
          refine m_aload_n hC dX5_ofTrade_97 0 rfl ?_
          refine m_getR (o := 18) (j := 10) (a := 26) (CN := RX5) (T := TX5) (N := 19) hC iX5_ofTrade_5 fX5_ofTrade_32 rfl dX5_ofTrade_98 rfl rfl (by decide) rfl ?_
          refine m_iload_n hC dX5_ofTrade_101 1 rfl ?_
          refine m_iaload (o := 26) (n := 100) hC rfl dX5_ofTrade_102 (by omega) (by omega) (by decide) ?_
          refine m_iretx hC hR (Or.inl rfl) dX5_ofTrade_103 ⟨Nat.le_of_ble_eq_true rfl, Nat.le_of_ble_eq_true rfl⟩ ?_
          exact RP_ok hcd (by rw [hS0]; unfold ofT; rw [if_neg cw_0, if_neg cw_1, if_neg cw_2, if_pos cw_3]; rfl) hS0
        by_cases cw_4 : w = 4
        · refine m_tableIn (tgt := 104) hC dX5_ofTrade_40 (by omega) (by omega) (by omega) (by rw [cw_4]; rfl) (by decide) ?_
          refine m_aload_n hC dX5_ofTrade_104 0 rfl ?_
          refine m_getR (o := 18) (j := 11) (a := 27) (CN := RX5) (T := TX5) (N := 19) hC iX5_ofTrade_5 fX5_ofTrade_35 rfl dX5_ofTrade_105 rfl rfl (by decide) rfl ?_
          refine m_iload_n hC dX5_ofTrade_108 1 rfl ?_
          refine m_iaload (o := 27) (n := 100) hC rfl dX5_ofTrade_109 (by omega) (by omega) (by decide) ?_
          refine m_iretx hC hR (Or.inl rfl) dX5_ofTrade_110 ⟨Nat.le_of_ble_eq_true rfl, Nat.le_of_ble_eq_true rfl⟩ ?_
          exact RP_ok hcd (by rw [hS0]; unfold ofT; rw [if_neg cw_0, if_neg cw_1, if_neg cw_2, if_neg cw_3, if_pos cw_4]; rfl) hS0
        refine m_tableOut (tgt := 111) hC dX5_ofTrade_40 (by omega) (by omega) (by decide) ?_
        refine m_aload_n hC dX5_ofTrade_111 0 rfl ?_
        refine m_getR (o := 18) (j := 13) (a := 29) (CN := RX5) (T := TX5) (N := 19) hC iX5_ofTrade_5 fX5_ofTrade_41 rfl dX5_ofTrade_112 rfl rfl (by decide) rfl ?_
        refine m_iload_n hC dX5_ofTrade_115 1 rfl ?_
        refine m_iaload (o := 29) (n := 100) hC rfl dX5_ofTrade_116 (by omega) (by omega) (by decide) ?_
        refine m_iretx hC hR (Or.inl rfl) dX5_ofTrade_117 ⟨Nat.le_of_ble_eq_true rfl, Nat.le_of_ble_eq_true rfl⟩ ?_
        exact RP_ok hcd (by rw [hS0]; unfold ofT; rw [if_neg cw_0, if_neg cw_1, if_neg cw_2, if_neg cw_3, if_neg cw_4]; rfl) hS0
      · exfalso; omega
  · have b_6 := bI_0 (Decidable.of_not_not c_6)
    refine m_iconst (v := 1) hC dX5_ofTrade_9 (by decide) ?_
    refine m_goto (tgt := 27) hC dX5_ofTrade_10 (by decide) ?_
    have hcd : cdOfT S t w = 1 := by unfold cdOfT; first | (rw [b_6]; rfl) | (simp only [b_6, b_19]; rfl)
    refine m_putI (o := 18) (j := 0) (ji := 0) (CN := RX5) (T := TX5) (N := 19) hC iX5_ofTrade_5 fX5_ofTrade_54 rfl dX5_ofTrade_27 rfl rfl (by decide) rfl tyX5 tyX5_ok nmX5 rfl (by decide +kernel) rfl ?_
    refine m_aload_n hC dX5_ofTrade_30 0 rfl ?_
    refine m_getI (o := 18) (j := 0) (ji := 0) (CN := RX5) (T := TX5) (N := 19) hC iX5_ofTrade_5 fX5_ofTrade_54 rfl dX5_ofTrade_31 rfl rfl (by decide) rfl rfl ?_
    rw [mset_hit]
    refine m_if_le (tgt := 39) hC dX5_ofTrade_34 (by decide) (by omega) (fun c_34 => ?_) (fun c_34 => ?_)
    · exfalso; omega
    · refine m_iconst (v := 0) hC dX5_ofTrade_37 (by decide) ?_
      refine m_iretx hC hR (Or.inl rfl) dX5_ofTrade_38 ⟨Nat.le_of_ble_eq_true rfl, Nat.le_of_ble_eq_true rfl⟩ ?_
      exact RP_bad hcd (by decide)
theorem iX5_leave_5 : ∀ w ∈ wsX50, w ∈ wsX5_leave := by decide +kernel
theorem fX5_leave_68 : Cond.fieldLink RX5 68 "MutualledgerModel" "trades" "I" ∈ wsX5_leave := by decide +kernel
theorem fX5_leave_54 : Cond.fieldLink RX5 54 "MutualledgerModel" "thrown" "I" ∈ wsX5_leave := by decide +kernel
theorem fX5_leave_7 : Cond.fieldLink RX5 7 "MutualledgerModel" "isIn" "[Z" ∈ wsX5_leave := by decide +kernel
theorem fX5_leave_23 : Cond.fieldLink RX5 23 "MutualledgerModel" "goods" "[I" ∈ wsX5_leave := by decide +kernel
theorem fX5_leave_13 : Cond.fieldLink RX5 13 "MutualledgerModel" "owes" "[I" ∈ wsX5_leave := by decide +kernel
theorem fX5_leave_20 : Cond.fieldLink RX5 20 "MutualledgerModel" "guaranteed" "[I" ∈ wsX5_leave := by decide +kernel
theorem fX5_leave_38 : Cond.fieldLink RX5 38 "MutualledgerModel" "state" "[I" ∈ wsX5_leave := by decide +kernel
set_option maxHeartbeats 4000000 in
set_option maxRecDepth 100000 in
theorem c_X5_leave {g : mG} {S : Mem} {s : Int} (hs : -2147483648 ≤ s ∧ s < 2147483648) (hg : RgR S) (hok : OkD (S 20)) (hgu : OkD (S 22)) (hfz : Fz (S 20) (S 21)) (hgo : livR S s = true → S 23 s = 0) (l : Launch) : Does l yX5_leave wsX5_leave ({ frames := 3, cells := 0, slots := 0, locals := 69 } : Room) g [.ref (g.2.2 18), .int (z32 s)] S (PIx (fun v S' => RP S (cdLeav S s) ((rlX S s).2.2.2) (stLeav S s) v S')) := by
  refine Does.of (cc := cX5_leave) (maxL := 5) (ret := (some .int)) (own := RX5) (by decide) rfl rfl (Nat.le_of_ble_eq_true rfl) ?_
  intro C hC hR
  show MW C g 5 (0, 0) 0 [(0, .ref (g.2.2 18)), (1, .int (z32 s))] [] S
  obtain ⟨r1, r2, r3, r4, r5, r6, r7⟩ := id hg
  refine m_iconst (v := 0) hC dX5_leave_0 (by decide) ?_
  refine m_istore_n hC dX5_leave_1 (fun z9 => [(2, .int (z32 z9)), (0, .ref (g.2.2 18)), (1, .int (z32 s))]) (by decide) (fun _ => rfl) (fun v2_1 hv2_1 => ?_)
  refine m_iconst (v := 0) hC dX5_leave_2 (by decide) ?_
  refine m_istore_n hC dX5_leave_3 (fun z9 => [(3, .int (z32 z9)), (2, .int (z32 v2_1)), (0, .ref (g.2.2 18)), (1, .int (z32 s))]) (by decide) (fun _ => rfl) (fun v3_3 hv3_3 => ?_)
  have L4 : ∀ (n4 : Nat) (i : Nat) (y : Int) (v : Int), S 18 7 - y < (n4 : Int) → y = (i : Int) → (i : Int) ≤ S 18 7 → v = bI (anyI (fun t => isofR S s t && decide (S 28 t = 1)) i) → MW C g 5 (0, 0) 4 [(0, .ref (g.2.2 18)), (1, .int (z32 s)), (2, .int (z32 v)), (3, .int (z32 y))] [] S := by
    intro n4
    induction n4 with
    | zero => intros; exfalso; omega
    | succ n4 ih4 =>
      intro i y v hm4 hy hi hv
      have q7 := r7 y
      refine m_iload_n hC dX5_leave_4 3 rfl ?_
      refine m_aload_n hC dX5_leave_5 0 rfl ?_
      refine m_getI (o := 18) (j := 7) (ji := 7) (CN := RX5) (T := TX5) (N := 19) hC iX5_leave_5 fX5_leave_68 rfl dX5_leave_6 rfl rfl (by decide) rfl rfl ?_
      try simp (decide := true) only [mset_o, mset_hit]
      refine m_icmp_ge (tgt := 47) hC dX5_leave_9 (by decide) (by omega) (by omega) (fun c_9 => ?_) (fun c_9 => ?_)
      · refine m_aload_n hC dX5_leave_47 0 rfl ?_
        refine m_aload_n hC dX5_leave_48 0 rfl ?_
        refine m_iload_n hC dX5_leave_49 1 rfl ?_
        have hiS : i = (S 18 7).toNat := by omega
        refine m_callVi (n := 1) hC (c_X5_isShop hs hg) gX5_leave_X5_isShop rfl dX5_leave_50 rfl rfl (by decide +kernel) ⟨Nat.le_of_ble_eq_true rfl, Nat.le_of_ble_eq_true rfl⟩ rfl (Nat.le_of_ble_eq_true rfl) ⟨Nat.le_of_ble_eq_true rfl, Nat.le_of_ble_eq_true rfl⟩ rfl ?_
        refine m_if_ne (tgt := 60) hC dX5_leave_53 (by decide) (bI_32 _) (fun c_53 => ?_) (fun c_53 => ?_)
        · have b_53 := bI_1 c_53
          have l1 := livR_in b_53 hg
          refine m_iload_n hC dX5_leave_60 2 rfl ?_
          refine m_if_eq (tgt := 68) hC dX5_leave_61 (by decide) (by rw [hv]; exact bI_32 _) (fun c_61 => ?_) (fun c_61 => ?_)
          · have bv := bI_0 (hv.symm.trans c_61)
            rw [hiS] at bv
            refine m_iconst (v := 0) hC dX5_leave_68 (by decide) ?_
            have hcd : cdLeav S s = 0 := by unfold cdLeav; first | (rw [b_53]; rfl) | (rw [b_53, bv]; rfl)
            refine m_putI (o := 18) (j := 0) (ji := 0) (CN := RX5) (T := TX5) (N := 19) hC iX5_leave_5 fX5_leave_54 rfl dX5_leave_69 rfl rfl (by decide) rfl tyX5 tyX5_ok nmX5 rfl (by decide +kernel) rfl ?_
            refine m_aload_n hC dX5_leave_72 0 rfl ?_
            refine m_getI (o := 18) (j := 0) (ji := 0) (CN := RX5) (T := TX5) (N := 19) hC iX5_leave_5 fX5_leave_54 rfl dX5_leave_73 rfl rfl (by decide) rfl rfl ?_
            rw [mset_hit]
            refine m_if_le (tgt := 81) hC dX5_leave_76 (by decide) (by omega) (fun c_76 => ?_) (fun c_76 => ?_)
            · obtain ⟨S0, hS0, hg0, q1, q7, q14, q15, q16, qo⟩ := thr0 S hg
              rw [← hS0]
              have hs9 : 0 ≤ s ∧ s < 9 := by omega
              have f20 : S0 20 = S 20 := qo 20 (by decide)
              have f22 : S0 22 = S 22 := qo 22 (by decide)
              refine m_aload_n hC dX5_leave_81 0 rfl ?_
              refine m_iload_n hC dX5_leave_82 1 rfl ?_
              refine m_callVvx (n := 1) hC (c_X5_passesOn hs9 (by rw [f20]; exact hok)) gX5_leave_X5_passesOn rfl dX5_leave_83 rfl rfl (by decide +kernel) ⟨Nat.le_of_ble_eq_true rfl, Nat.le_of_ble_eq_true rfl⟩ rfl (Nat.le_of_ble_eq_true rfl) ⟨Nat.le_of_ble_eq_true rfl, Nat.le_of_ble_eq_true rfl⟩ rfl (fun S1 hv83 => ?_)
              obtain ⟨n9, hS1, hst⟩ := hv83
              rw [psE_is hs9 (by rw [f20]; exact hok) hst, f20] at hS1
              have e20 : S1 20 = psE s (S 20) := by rw [hS1]; rfl
              have e22 : S1 22 = S 22 := by rw [hS1]; exact f22
              have e14 : S1 14 = S 14 := by rw [hS1]; exact qo 14 (by decide)
              have hlg : lgOk (S1 20, S1 22, S1 14) := ⟨by show OkD (S1 20); rw [e20]; exact psE_ok hs9 hok, by show OkD (S1 22); rw [e22]; exact hgu⟩
              refine m_aload_n hC dX5_leave_86 0 rfl ?_
              refine m_iload_n hC dX5_leave_87 1 rfl ?_
              refine m_callVv (n := 1) hC (c_X5_lets hs9 hlg) gX5_leave_X5_lets rfl dX5_leave_88 rfl rfl (by decide +kernel) ⟨Nat.le_of_ble_eq_true rfl, Nat.le_of_ble_eq_true rfl⟩ rfl (Nat.le_of_ble_eq_true rfl) ⟨Nat.le_of_ble_eq_true rfl, Nat.le_of_ble_eq_true rfl⟩ rfl ?_
              have hlo := (lgO_ok hs9 hlg (n := 9) (by omega)).1.1
              obtain ⟨X, hX⟩ : ∃ X, X = (((lgO s (S1 20, S1 22, S1 14) 9).1, (lgO s (S1 20, S1 22, S1 14) 9).2.1, S 23 s, (0 : Int)) : Fn × Fn × Int × Int) := ⟨_, rfl⟩
              have hX0 : rlOk 0 X := by
                have hg0 := hgo b_53
                rw [hX]
                exact ⟨fun i j i0 i9 j0 j9 => hlo.ent ⟨i0, i9⟩ ⟨j0, j9⟩, by show _ ≤ S 23 s; omega, by show S 23 s ≤ _; omega, by show (0 : Int) ≤ 0; omega, by show (0 : Int) ≤ _; omega⟩
              refine m_iconst (v := 0) hC dX5_leave_91 (by decide) ?_
              refine m_istore_n hC dX5_leave_92 (fun z9 => [(3, .int (z32 z9)), (0, .ref (g.2.2 18)), (1, .int (z32 s)), (2, .int (z32 v))]) (by decide) (fun _ => rfl) (fun v3_92 hv3_92 => ?_)
              refine m_iconst (v := 0) hC dX5_leave_93 (by decide) ?_
              refine m_istore hC dX5_leave_94 (fun z9 => [(4, .int (z32 z9)), (3, .int (z32 v3_92)), (0, .ref (g.2.2 18)), (1, .int (z32 s)), (2, .int (z32 v))]) (by decide) (fun _ => rfl) (fun v4_94 hv4_94 => ?_)
              have L96 : ∀ (n96 : Nat) (k : Nat) (x : Int) (r : Int) (S3 : Mem), 9 - x < (n96 : Int) → x = (k : Int) → k ≤ 9 → r = (rlI s X k).2.2.2 → S3 = rlM S0 s (rlI s X k) → MW C g 5 (0, 0) 96 [(0, .ref (g.2.2 18)), (1, .int (z32 s)), (3, .int (z32 r)), (4, .int (z32 x))] [] S3 := by
                intro n96
                induction n96 with
                | zero => intros; exfalso; omega
                | succ n96 ih96 =>
                  intro k x r S3 hm96 hx hk hr hS3
                  have hok3 := rlI_ok (by omega : 0 ≤ s ∧ s < 9) hX0 k hk
                  subst hS3
                  generalize hU : rlI s X k = U at hok3 hr
                  obtain ⟨u1, u2, u3, u4, u5⟩ := hok3
                  have w2 : x < 9 → (0 ≤ U.1 (ix s x) ∧ U.1 (ix s x) ≤ 200000) ∧ (0 ≤ U.1 (ix x s) ∧ U.1 (ix x s) ≤ 200000) := fun q => ⟨u1 s x (by omega) (by omega) (by omega) (by omega), u1 x s (by omega) (by omega) (by omega) (by omega)⟩
                  refine m_iload hC dX5_leave_96 3 rfl ?_
                  refine m_bipush (v := 9) hC dX5_leave_98 (by decide) ?_
                  refine m_icmp_ge (tgt := 215) hC dX5_leave_100 (by decide) (by omega) (by omega) (fun c_100 => ?_) (fun c_100 => ?_)
                  · refine m_aload_n hC dX5_leave_215 0 rfl ?_
                    refine m_getR (o := 18) (j := 2) (a := 19) (CN := RX5) (T := TX5) (N := 19) hC iX5_leave_5 fX5_leave_7 rfl dX5_leave_216 rfl rfl (by decide) rfl ?_
                    refine m_iload_n hC dX5_leave_219 1 rfl ?_
                    refine m_iconst (v := 0) hC dX5_leave_220 (by decide) ?_
                    refine m_bastore (o := 19) (n := 8) hC rfl dX5_leave_221 (by omega) (by omega) (by decide) (by decide) ?_
                    refine m_iload_n hC dX5_leave_222 2 rfl ?_
                    refine m_iretx hC hR (Or.inl rfl) dX5_leave_223 ⟨Nat.le_of_ble_eq_true rfl, Nat.le_of_ble_eq_true rfl⟩ ?_
                    have hX9 : rlX S s = rlI s X 9 := by unfold rlX; rw [hX, e20, e22, e14]
                    rw [show k = 9 by omega] at hU
                    refine RP_ok hcd (by rw [hX9, hU]; exact hr) ?_
                    unfold stLeav
                    rw [hX9, hU, show thr S 0 = S0 from hS0.symm, show S 23 = S0 23 from (qo 23 (by decide)).symm]
                    rfl
                  · refine m_aload_n hC dX5_leave_103 0 rfl ?_
                    refine m_getR (o := 18) (j := 6) (a := 23) (CN := RX5) (T := TX5) (N := 19) hC iX5_leave_5 fX5_leave_23 rfl dX5_leave_104 rfl rfl (by decide) rfl ?_
                    refine m_iload_n hC dX5_leave_107 1 rfl ?_
                    refine m_dup2 hC dX5_leave_108 rfl rfl ?_
                    refine m_iaload (o := 23) (n := 8) hC rfl dX5_leave_109 (by omega) (by omega) (by decide) ?_
                    refine m_aload_n hC dX5_leave_110 0 rfl ?_
                    refine m_getR (o := 18) (j := 3) (a := 20) (CN := RX5) (T := TX5) (N := 19) hC iX5_leave_5 fX5_leave_13 rfl dX5_leave_111 rfl rfl (by decide) rfl ?_
                    refine m_iload_n hC dX5_leave_114 1 rfl ?_
                    refine m_iload hC dX5_leave_115 3 rfl ?_
                    refine m_callSi (n := 2) hC (c_X5_at) gX5_leave_X5_at rfl dX5_leave_117 (by decide +kernel) ⟨Nat.le_of_ble_eq_true rfl, Nat.le_of_ble_eq_true rfl⟩ rfl (Nat.le_of_ble_eq_true rfl) ⟨Nat.le_of_ble_eq_true rfl, Nat.le_of_ble_eq_true rfl⟩ rfl ?_
                    refine m_iaload (o := 20) (n := 81) hC rfl dX5_leave_120 (ix_lo (by omega) (by omega)) (ix_hi (by omega) (by omega)) (by decide) ?_
                    refine m_aload_n hC dX5_leave_121 0 rfl ?_
                    refine m_getR (o := 18) (j := 3) (a := 20) (CN := RX5) (T := TX5) (N := 19) hC iX5_leave_5 fX5_leave_13 rfl dX5_leave_122 rfl rfl (by decide) rfl ?_
                    refine m_iload hC dX5_leave_125 3 rfl ?_
                    refine m_iload_n hC dX5_leave_127 1 rfl ?_
                    refine m_callSi (n := 2) hC (c_X5_at) gX5_leave_X5_at rfl dX5_leave_128 (by decide +kernel) ⟨Nat.le_of_ble_eq_true rfl, Nat.le_of_ble_eq_true rfl⟩ rfl (Nat.le_of_ble_eq_true rfl) ⟨Nat.le_of_ble_eq_true rfl, Nat.le_of_ble_eq_true rfl⟩ rfl ?_
                    refine m_iaload (o := 20) (n := 81) hC rfl dX5_leave_131 (ix_lo (by omega) (by omega)) (ix_hi (by omega) (by omega)) (by decide) ?_
                    refine m_isub hC dX5_leave_132 ?_
                    refine m_iadd hC dX5_leave_133 ?_
                    refine m_iastore (o := 23) (n := 8) hC rfl dX5_leave_134 (by omega) (by omega) (by decide) ?_
                    refine m_iload_n hC dX5_leave_135 2 rfl ?_
                    refine m_aload_n hC dX5_leave_136 0 rfl ?_
                    refine m_getR (o := 18) (j := 3) (a := 20) (CN := RX5) (T := TX5) (N := 19) hC iX5_leave_5 fX5_leave_13 rfl dX5_leave_137 rfl rfl (by decide) rfl ?_
                    refine m_iload_n hC dX5_leave_140 1 rfl ?_
                    refine m_iload hC dX5_leave_141 3 rfl ?_
                    refine m_callSi (n := 2) hC (c_X5_at) gX5_leave_X5_at rfl dX5_leave_143 (by decide +kernel) ⟨Nat.le_of_ble_eq_true rfl, Nat.le_of_ble_eq_true rfl⟩ rfl (Nat.le_of_ble_eq_true rfl) ⟨Nat.le_of_ble_eq_true rfl, Nat.le_of_ble_eq_true rfl⟩ rfl ?_
                    refine m_iaload (o := 20) (n := 81) hC rfl dX5_leave_146 (ix_lo (by omega) (by omega)) (ix_hi (by omega) (by omega)) (by decide) ?_
                    refine m_aload_n hC dX5_leave_147 0 rfl ?_
                    refine m_getR (o := 18) (j := 3) (a := 20) (CN := RX5) (T := TX5) (N := 19) hC iX5_leave_5 fX5_leave_13 rfl dX5_leave_148 rfl rfl (by decide) rfl ?_
                    refine m_iload hC dX5_leave_151 3 rfl ?_
                    refine m_iload_n hC dX5_leave_153 1 rfl ?_
                    refine m_callSi (n := 2) hC (c_X5_at) gX5_leave_X5_at rfl dX5_leave_154 (by decide +kernel) ⟨Nat.le_of_ble_eq_true rfl, Nat.le_of_ble_eq_true rfl⟩ rfl (Nat.le_of_ble_eq_true rfl) ⟨Nat.le_of_ble_eq_true rfl, Nat.le_of_ble_eq_true rfl⟩ rfl ?_
                    refine m_iaload (o := 20) (n := 81) hC rfl dX5_leave_157 (ix_lo (by omega) (by omega)) (ix_hi (by omega) (by omega)) (by decide) ?_
                    refine m_iadd hC dX5_leave_158 ?_
                    refine m_iadd hC dX5_leave_159 ?_
                    refine m_istore_n hC dX5_leave_160 (fun z9 => [(3, .int (z32 z9)), (0, .ref (g.2.2 18)), (1, .int (z32 s)), (4, .int (z32 x))]) (by decide) (fun _ => rfl) (fun v3_160 hv3_160 => ?_)
                    refine m_aload_n hC dX5_leave_161 1 rfl ?_
                    refine m_getR (o := 18) (j := 3) (a := 20) (CN := RX5) (T := TX5) (N := 19) hC iX5_leave_5 fX5_leave_13 rfl dX5_leave_162 rfl rfl (by decide) rfl ?_
                    refine m_iload_n hC dX5_leave_165 2 rfl ?_
                    refine m_iload hC dX5_leave_166 3 rfl ?_
                    refine m_callSi (n := 2) hC (c_X5_at) gX5_leave_X5_at rfl dX5_leave_168 (by decide +kernel) ⟨Nat.le_of_ble_eq_true rfl, Nat.le_of_ble_eq_true rfl⟩ rfl (Nat.le_of_ble_eq_true rfl) ⟨Nat.le_of_ble_eq_true rfl, Nat.le_of_ble_eq_true rfl⟩ rfl ?_
                    refine m_iconst (v := 0) hC dX5_leave_171 (by decide) ?_
                    refine m_iastore (o := 20) (n := 81) hC rfl dX5_leave_172 (ix_lo (by omega) (by omega)) (ix_hi (by omega) (by omega)) (by decide) ?_
                    refine m_aload_n hC dX5_leave_173 1 rfl ?_
                    refine m_getR (o := 18) (j := 3) (a := 20) (CN := RX5) (T := TX5) (N := 19) hC iX5_leave_5 fX5_leave_13 rfl dX5_leave_174 rfl rfl (by decide) rfl ?_
                    refine m_iload hC dX5_leave_177 3 rfl ?_
                    refine m_iload_n hC dX5_leave_179 2 rfl ?_
                    refine m_callSi (n := 2) hC (c_X5_at) gX5_leave_X5_at rfl dX5_leave_180 (by decide +kernel) ⟨Nat.le_of_ble_eq_true rfl, Nat.le_of_ble_eq_true rfl⟩ rfl (Nat.le_of_ble_eq_true rfl) ⟨Nat.le_of_ble_eq_true rfl, Nat.le_of_ble_eq_true rfl⟩ rfl ?_
                    refine m_iconst (v := 0) hC dX5_leave_183 (by decide) ?_
                    refine m_iastore (o := 20) (n := 81) hC rfl dX5_leave_184 (ix_lo (by omega) (by omega)) (ix_hi (by omega) (by omega)) (by decide) ?_
                    refine m_aload_n hC dX5_leave_185 1 rfl ?_
                    refine m_getR (o := 18) (j := 5) (a := 22) (CN := RX5) (T := TX5) (N := 19) hC iX5_leave_5 fX5_leave_20 rfl dX5_leave_186 rfl rfl (by decide) rfl ?_
                    refine m_iload_n hC dX5_leave_189 2 rfl ?_
                    refine m_iload hC dX5_leave_190 3 rfl ?_
                    refine m_callSi (n := 2) hC (c_X5_at) gX5_leave_X5_at rfl dX5_leave_192 (by decide +kernel) ⟨Nat.le_of_ble_eq_true rfl, Nat.le_of_ble_eq_true rfl⟩ rfl (Nat.le_of_ble_eq_true rfl) ⟨Nat.le_of_ble_eq_true rfl, Nat.le_of_ble_eq_true rfl⟩ rfl ?_
                    refine m_iconst (v := 0) hC dX5_leave_195 (by decide) ?_
                    refine m_iastore (o := 22) (n := 81) hC rfl dX5_leave_196 (ix_lo (by omega) (by omega)) (ix_hi (by omega) (by omega)) (by decide) ?_
                    refine m_aload_n hC dX5_leave_197 1 rfl ?_
                    refine m_getR (o := 18) (j := 5) (a := 22) (CN := RX5) (T := TX5) (N := 19) hC iX5_leave_5 fX5_leave_20 rfl dX5_leave_198 rfl rfl (by decide) rfl ?_
                    refine m_iload hC dX5_leave_201 3 rfl ?_
                    refine m_iload_n hC dX5_leave_203 2 rfl ?_
                    refine m_callSi (n := 2) hC (c_X5_at) gX5_leave_X5_at rfl dX5_leave_204 (by decide +kernel) ⟨Nat.le_of_ble_eq_true rfl, Nat.le_of_ble_eq_true rfl⟩ rfl (Nat.le_of_ble_eq_true rfl) ⟨Nat.le_of_ble_eq_true rfl, Nat.le_of_ble_eq_true rfl⟩ rfl ?_
                    refine m_iconst (v := 0) hC dX5_leave_207 (by decide) ?_
                    refine m_iastore (o := 22) (n := 81) hC rfl dX5_leave_208 (ix_lo (by omega) (by omega)) (ix_hi (by omega) (by omega)) (by decide) ?_
                    refine m_iinc hC dX5_leave_209 3 rfl (fun z9 => [(4, .int (z32 z9)), (3, .int (z32 v3_160)), (0, .ref (g.2.2 18)), (1, .int (z32 s))]) (by decide) (fun _ => rfl) (fun v4_209 hv4_209 => ?_)
                    refine m_goto (tgt := 96) hC dX5_leave_212 (by decide) ?_
                    refine m_locals [2, 3, 1, 0] rfl ?_
                    exact ih96 (k + 1) v4_209 v3_160 _ (by omega) (by omega) (by omega) (by rw [hv3_160, hr]; show _ = (rlF s (k : Int) (rlI s X k)).2.2.2; rw [← hx, hU]; rfl) (by show _ = rlM S0 s (rlF s (k : Int) (rlI s X k)); rw [← hx, hU, ← rlM_step]; rfl)
              refine m_locals [2, 3, 1, 0] rfl ?_
              exact L96 10 0 v4_94 v3_92 _ (by omega) (by omega) (by omega) (by rw [hv3_92, hX]; rfl) (by rw [hX, hS1, show S 23 = S0 23 from (qo 23 (by decide)).symm]; exact rlM_0 _ _ _ _ _)
            · exfalso; omega
          · have bv := bI_1 (fun z => c_61 (hv.trans z))
            rw [hiS] at bv
            refine m_iconst (v := 2) hC dX5_leave_64 (by decide) ?_
            refine m_goto (tgt := 69) hC dX5_leave_65 (by decide) ?_
            have hcd : cdLeav S s = 2 := by unfold cdLeav; first | (rw [b_53]; rfl) | (rw [b_53, bv]; rfl)
            refine m_putI (o := 18) (j := 0) (ji := 0) (CN := RX5) (T := TX5) (N := 19) hC iX5_leave_5 fX5_leave_54 rfl dX5_leave_69 rfl rfl (by decide) rfl tyX5 tyX5_ok nmX5 rfl (by decide +kernel) rfl ?_
            refine m_aload_n hC dX5_leave_72 0 rfl ?_
            refine m_getI (o := 18) (j := 0) (ji := 0) (CN := RX5) (T := TX5) (N := 19) hC iX5_leave_5 fX5_leave_54 rfl dX5_leave_73 rfl rfl (by decide) rfl rfl ?_
            rw [mset_hit]
            refine m_if_le (tgt := 81) hC dX5_leave_76 (by decide) (by omega) (fun c_76 => ?_) (fun c_76 => ?_)
            · exfalso; omega
            · refine m_iconst (v := 0) hC dX5_leave_79 (by decide) ?_
              refine m_iretx hC hR (Or.inl rfl) dX5_leave_80 ⟨Nat.le_of_ble_eq_true rfl, Nat.le_of_ble_eq_true rfl⟩ ?_
              exact RP_bad hcd (by decide)
        · have b_53 := bI_0 (Decidable.of_not_not c_53)
          refine m_iconst (v := 1) hC dX5_leave_56 (by decide) ?_
          refine m_goto (tgt := 69) hC dX5_leave_57 (by decide) ?_
          have hcd : cdLeav S s = 1 := by unfold cdLeav; first | (rw [b_53]; rfl) | (rw [b_53, bv]; rfl)
          refine m_putI (o := 18) (j := 0) (ji := 0) (CN := RX5) (T := TX5) (N := 19) hC iX5_leave_5 fX5_leave_54 rfl dX5_leave_69 rfl rfl (by decide) rfl tyX5 tyX5_ok nmX5 rfl (by decide +kernel) rfl ?_
          refine m_aload_n hC dX5_leave_72 0 rfl ?_
          refine m_getI (o := 18) (j := 0) (ji := 0) (CN := RX5) (T := TX5) (N := 19) hC iX5_leave_5 fX5_leave_54 rfl dX5_leave_73 rfl rfl (by decide) rfl rfl ?_
          rw [mset_hit]
          refine m_if_le (tgt := 81) hC dX5_leave_76 (by decide) (by omega) (fun c_76 => ?_) (fun c_76 => ?_)
          · exfalso; omega
          · refine m_iconst (v := 0) hC dX5_leave_79 (by decide) ?_
            refine m_iretx hC hR (Or.inl rfl) dX5_leave_80 ⟨Nat.le_of_ble_eq_true rfl, Nat.le_of_ble_eq_true rfl⟩ ?_
            exact RP_bad hcd (by decide)
      · refine m_iload_n hC dX5_leave_12 2 rfl ?_
        refine m_if_ne (tgt := 35) hC dX5_leave_13 (by decide) (by rw [hv]; exact bI_32 _) (fun c_13 => ?_) (fun c_13 => ?_)
        · have bv := bI_1 (fun z => c_13 (hv.trans z))
          refine m_iconst (v := 1) hC dX5_leave_35 (by decide) ?_
          refine m_goto (tgt := 40) hC dX5_leave_36 (by decide) ?_
          refine m_istore_n hC dX5_leave_40 (fun z9 => [(2, .int (z32 z9)), (0, .ref (g.2.2 18)), (1, .int (z32 s)), (3, .int (z32 y))]) (by decide) (fun _ => rfl) (fun v2_40 hv2_40 => ?_)
          refine m_iinc hC dX5_leave_41 3 rfl (fun z9 => [(3, .int (z32 z9)), (2, .int (z32 v2_40)), (0, .ref (g.2.2 18)), (1, .int (z32 s))]) (by decide) (fun _ => rfl) (fun v3_41 hv3_41 => ?_)
          refine m_goto (tgt := 4) hC dX5_leave_44 (by decide) ?_
          refine m_locals [2, 3, 1, 0] rfl ?_
          exact ih4 (i + 1) v3_41 v2_40 (by omega) (by omega) (by omega) (by rw [hv2_40]; apply bI_eq; rw [anyI, ← hy]; first | exact Or.inl ⟨rfl, by rw [bv]; rfl⟩ | exact Or.inr ⟨rfl, by rw [bv, b_22]; rfl⟩ | exact Or.inl ⟨rfl, by rw [bv, b_22, decide_eq_true (by omega)]; rfl⟩ | exact Or.inr ⟨rfl, by rw [bv, b_22, decide_eq_false (by omega)]; rfl⟩)
        · have bv := bI_0 (hv.symm.trans (Decidable.of_not_not c_13))
          refine m_aload_n hC dX5_leave_16 0 rfl ?_
          refine m_iload_n hC dX5_leave_17 3 rfl ?_
          refine m_iload_n hC dX5_leave_18 1 rfl ?_
          refine m_callVi (n := 2) hC (c_X5_isOf (by omega) hs hg) gX5_leave_X5_isOf rfl dX5_leave_19 rfl rfl (by decide +kernel) ⟨Nat.le_of_ble_eq_true rfl, Nat.le_of_ble_eq_true rfl⟩ rfl (Nat.le_of_ble_eq_true rfl) ⟨Nat.le_of_ble_eq_true rfl, Nat.le_of_ble_eq_true rfl⟩ rfl ?_
          refine m_if_eq (tgt := 39) hC dX5_leave_22 (by decide) (bI_32 _) (fun c_22 => ?_) (fun c_22 => ?_)
          · have b_22 := bI_0 c_22
            refine m_iconst (v := 0) hC dX5_leave_39 (by decide) ?_
            refine m_istore_n hC dX5_leave_40 (fun z9 => [(2, .int (z32 z9)), (0, .ref (g.2.2 18)), (1, .int (z32 s)), (3, .int (z32 y))]) (by decide) (fun _ => rfl) (fun v2_40 hv2_40 => ?_)
            refine m_iinc hC dX5_leave_41 3 rfl (fun z9 => [(3, .int (z32 z9)), (2, .int (z32 v2_40)), (0, .ref (g.2.2 18)), (1, .int (z32 s))]) (by decide) (fun _ => rfl) (fun v3_41 hv3_41 => ?_)
            refine m_goto (tgt := 4) hC dX5_leave_44 (by decide) ?_
            refine m_locals [2, 3, 1, 0] rfl ?_
            exact ih4 (i + 1) v3_41 v2_40 (by omega) (by omega) (by omega) (by rw [hv2_40]; apply bI_eq; rw [anyI, ← hy]; first | exact Or.inl ⟨rfl, by rw [bv]; rfl⟩ | exact Or.inr ⟨rfl, by rw [bv, b_22]; rfl⟩ | exact Or.inl ⟨rfl, by rw [bv, b_22, decide_eq_true (by omega)]; rfl⟩ | exact Or.inr ⟨rfl, by rw [bv, b_22, decide_eq_false (by omega)]; rfl⟩)
          · have b_22 := bI_1 c_22
            refine m_aload_n hC dX5_leave_25 0 rfl ?_
            refine m_getR (o := 18) (j := 12) (a := 28) (CN := RX5) (T := TX5) (N := 19) hC iX5_leave_5 fX5_leave_38 rfl dX5_leave_26 rfl rfl (by decide) rfl ?_
            refine m_iload_n hC dX5_leave_29 3 rfl ?_
            refine m_iaload (o := 28) (n := 100) hC rfl dX5_leave_30 (by omega) (by omega) (by decide) ?_
            refine m_iconst (v := 1) hC dX5_leave_31 (by decide) ?_
            refine m_icmp_ne (tgt := 39) hC dX5_leave_32 (by decide) (by omega) (by omega) (fun c_32 => ?_) (fun c_32 => ?_)
            · refine m_iconst (v := 0) hC dX5_leave_39 (by decide) ?_
              refine m_istore_n hC dX5_leave_40 (fun z9 => [(2, .int (z32 z9)), (0, .ref (g.2.2 18)), (1, .int (z32 s)), (3, .int (z32 y))]) (by decide) (fun _ => rfl) (fun v2_40 hv2_40 => ?_)
              refine m_iinc hC dX5_leave_41 3 rfl (fun z9 => [(3, .int (z32 z9)), (2, .int (z32 v2_40)), (0, .ref (g.2.2 18)), (1, .int (z32 s))]) (by decide) (fun _ => rfl) (fun v3_41 hv3_41 => ?_)
              refine m_goto (tgt := 4) hC dX5_leave_44 (by decide) ?_
              refine m_locals [2, 3, 1, 0] rfl ?_
              exact ih4 (i + 1) v3_41 v2_40 (by omega) (by omega) (by omega) (by rw [hv2_40]; apply bI_eq; rw [anyI, ← hy]; first | exact Or.inl ⟨rfl, by rw [bv]; rfl⟩ | exact Or.inr ⟨rfl, by rw [bv, b_22]; rfl⟩ | exact Or.inl ⟨rfl, by rw [bv, b_22, decide_eq_true (by omega)]; rfl⟩ | exact Or.inr ⟨rfl, by rw [bv, b_22, decide_eq_false (by omega)]; rfl⟩)
            · refine m_iconst (v := 1) hC dX5_leave_35 (by decide) ?_
              refine m_goto (tgt := 40) hC dX5_leave_36 (by decide) ?_
              refine m_istore_n hC dX5_leave_40 (fun z9 => [(2, .int (z32 z9)), (0, .ref (g.2.2 18)), (1, .int (z32 s)), (3, .int (z32 y))]) (by decide) (fun _ => rfl) (fun v2_40 hv2_40 => ?_)
              refine m_iinc hC dX5_leave_41 3 rfl (fun z9 => [(3, .int (z32 z9)), (2, .int (z32 v2_40)), (0, .ref (g.2.2 18)), (1, .int (z32 s))]) (by decide) (fun _ => rfl) (fun v3_41 hv3_41 => ?_)
              refine m_goto (tgt := 4) hC dX5_leave_44 (by decide) ?_
              refine m_locals [2, 3, 1, 0] rfl ?_
              exact ih4 (i + 1) v3_41 v2_40 (by omega) (by omega) (by omega) (by rw [hv2_40]; apply bI_eq; rw [anyI, ← hy]; first | exact Or.inl ⟨rfl, by rw [bv]; rfl⟩ | exact Or.inr ⟨rfl, by rw [bv, b_22]; rfl⟩ | exact Or.inl ⟨rfl, by rw [bv, b_22, decide_eq_true (by omega)]; rfl⟩ | exact Or.inr ⟨rfl, by rw [bv, b_22, decide_eq_false (by omega)]; rfl⟩)
  refine m_locals [2, 3, 1, 0] rfl ?_
  exact L4 101 0 v3_3 v2_1 (by omega) (by omega) (by omega) (by rw [hv2_1]; rfl)
theorem iX5_night_5 : ∀ w ∈ wsX50, w ∈ wsX5_night := by decide +kernel
theorem fX5_night_54 : Cond.fieldLink RX5 54 "MutualledgerModel" "thrown" "I" ∈ wsX5_night := by decide +kernel
theorem fX5_night_75 : Cond.fieldLink RX5 75 "MutualledgerModel" "today" "I" ∈ wsX5_night := by decide +kernel
theorem fX5_night_127 : Cond.fieldLink RX5 127 "MutualledgerModel" "rings" "I" ∈ wsX5_night := by decide +kernel
theorem fX5_night_57 : Cond.fieldLink RX5 57 "MutualledgerModel" "joined" "I" ∈ wsX5_night := by decide +kernel
theorem fX5_night_7 : Cond.fieldLink RX5 7 "MutualledgerModel" "isIn" "[Z" ∈ wsX5_night := by decide +kernel
set_option maxHeartbeats 4000000 in
set_option maxRecDepth 100000 in
theorem c_X5_night {g : mG} {S : Mem} {x : Int} (hx : -2147483648 ≤ x ∧ x < 2147483648) (hg : nGd S) (ht : S 18 14 + 20 ≤ 20000) (l : Launch) : Does l yX5_night wsX5_night ({ frames := 5, cells := 0, slots := 0, locals := 112 } : Room) g [.ref (g.2.2 18), .int (z32 x)] S (PIx (fun v S' => (cdNight x ≠ 0 → S' = thr S (cdNight x)) ∧ (cdNight x = 0 → v = S' 18 14 ∧ ngN x.toNat (thr S 0) S'))) := by
  refine Does.of (cc := cX5_night) (maxL := 5) (ret := (some .int)) (own := RX5) (by decide) rfl rfl (Nat.le_of_ble_eq_true rfl) ?_
  intro C hC hR
  show MW C g 5 (0, 0) 0 [(0, .ref (g.2.2 18)), (1, .int (z32 x))] [] S
  refine m_aload_n hC dX5_night_0 0 rfl ?_
  refine m_iload_n hC dX5_night_1 1 rfl ?_
  refine m_iconst (v := 1) hC dX5_night_2 (by decide) ?_
  refine m_bipush (v := 20) hC dX5_night_3 (by decide) ?_
  refine m_callSi (n := 3) hC (c_X5_in hx (by omega) (by omega)) gX5_night_X5_in rfl dX5_night_5 (by decide +kernel) ⟨Nat.le_of_ble_eq_true rfl, Nat.le_of_ble_eq_true rfl⟩ rfl (Nat.le_of_ble_eq_true rfl) ⟨Nat.le_of_ble_eq_true rfl, Nat.le_of_ble_eq_true rfl⟩ rfl ?_
  refine m_if_eq (tgt := 15) hC dX5_night_8 (by decide) (bI_32 _) (fun c_8 => ?_) (fun c_8 => ?_)
  · have b_8 := bI_0 c_8
    refine m_iconst (v := 1) hC dX5_night_15 (by decide) ?_
    have hcd : cdNight x = 1 := by unfold cdNight; rw [b_8]; rfl
    refine m_putI (o := 18) (j := 0) (ji := 0) (CN := RX5) (T := TX5) (N := 19) hC iX5_night_5 fX5_night_54 rfl dX5_night_16 rfl rfl (by decide) rfl tyX5 tyX5_ok nmX5 rfl (by decide +kernel) rfl ?_
    refine m_iconst (v := 0) hC dX5_night_19 (by decide) ?_
    refine m_istore_n hC dX5_night_20 (fun z9 => [(2, .int (z32 z9)), (0, .ref (g.2.2 18)), (1, .int (z32 x))]) (by decide) (fun _ => rfl) (fun v2_20 hv2_20 => ?_)
    refine m_iload_n hC dX5_night_21 0 rfl ?_
    refine m_iload_n hC dX5_night_22 2 rfl ?_
    refine m_icmp_ge (tgt := 111) hC dX5_night_23 (by decide) (by omega) (by omega) (fun c_23 => ?_) (fun c_23 => ?_)
    · refine m_aload_n hC dX5_night_111 1 rfl ?_
      refine m_getI (o := 18) (j := 0) (ji := 0) (CN := RX5) (T := TX5) (N := 19) hC iX5_night_5 fX5_night_54 rfl dX5_night_112 rfl rfl (by decide) rfl rfl ?_
      rw [mset_hit]
      refine m_if_le (tgt := 122) hC dX5_night_115 (by decide) (by omega) (fun c_115 => ?_) (fun c_115 => ?_)
      · exfalso; omega
      · refine m_iconst (v := 0) hC dX5_night_118 (by decide) ?_
        refine m_goto (tgt := 126) hC dX5_night_119 (by decide) ?_
        refine m_iretx hC hR (Or.inl rfl) dX5_night_126 ⟨Nat.le_of_ble_eq_true rfl, Nat.le_of_ble_eq_true rfl⟩ ?_
        first | (exfalso; omega) | (refine ⟨fun _ => by rw [hcd]; rfl, fun q => absurd (hcd.symm.trans q) (by decide)⟩; done) | (refine ⟨fun q => absurd hcd q, fun _ => ⟨rfl, ?_⟩⟩; rw [← hS0, show x.toNat = i by omega]; exact hN)
    · refine m_aload_n hC dX5_night_26 1 rfl ?_
      refine m_getI (o := 18) (j := 0) (ji := 0) (CN := RX5) (T := TX5) (N := 19) hC iX5_night_5 fX5_night_54 rfl dX5_night_27 rfl rfl (by decide) rfl rfl ?_
      rw [mset_hit]
      refine m_if_ne (tgt := 111) hC dX5_night_30 (by decide) (by omega) (fun c_30 => ?_) (fun c_30 => ?_)
      · refine m_aload_n hC dX5_night_111 1 rfl ?_
        refine m_getI (o := 18) (j := 0) (ji := 0) (CN := RX5) (T := TX5) (N := 19) hC iX5_night_5 fX5_night_54 rfl dX5_night_112 rfl rfl (by decide) rfl rfl ?_
        rw [mset_hit]
        refine m_if_le (tgt := 122) hC dX5_night_115 (by decide) (by omega) (fun c_115 => ?_) (fun c_115 => ?_)
        · exfalso; omega
        · refine m_iconst (v := 0) hC dX5_night_118 (by decide) ?_
          refine m_goto (tgt := 126) hC dX5_night_119 (by decide) ?_
          refine m_iretx hC hR (Or.inl rfl) dX5_night_126 ⟨Nat.le_of_ble_eq_true rfl, Nat.le_of_ble_eq_true rfl⟩ ?_
          first | (exfalso; omega) | (refine ⟨fun _ => by rw [hcd]; rfl, fun q => absurd (hcd.symm.trans q) (by decide)⟩; done) | (refine ⟨fun q => absurd hcd q, fun _ => ⟨rfl, ?_⟩⟩; rw [← hS0, show x.toNat = i by omega]; exact hN)
      · exfalso; omega
  · have b_8 := bI_1 c_8
    have l1 := of_decide_eq_true b_8
    obtain ⟨S0, hS0, hn0, h00, h014⟩ : ∃ S0 : Mem, S0 = thr S 0 ∧ nGd S0 ∧ S0 18 0 = 0 ∧ S0 18 14 = S 18 14 := ⟨_, rfl, hg, mset_hit _ _ _ _, rfl⟩
    refine m_iconst (v := 0) hC dX5_night_11 (by decide) ?_
    refine m_goto (tgt := 16) hC dX5_night_12 (by decide) ?_
    have hcd : cdNight x = 0 := by unfold cdNight; rw [b_8]; rfl
    refine m_putI (o := 18) (j := 0) (ji := 0) (CN := RX5) (T := TX5) (N := 19) hC iX5_night_5 fX5_night_54 rfl dX5_night_16 rfl rfl (by decide) rfl tyX5 tyX5_ok nmX5 rfl (by decide +kernel) rfl ?_
    refine m_iconst (v := 0) hC dX5_night_19 (by decide) ?_
    refine m_istore_n hC dX5_night_20 (fun z9 => [(2, .int (z32 z9)), (0, .ref (g.2.2 18)), (1, .int (z32 x))]) (by decide) (fun _ => rfl) (fun v2_20 hv2_20 => ?_)
    have L21 : ∀ (n21 : Nat) (i : Nat) (y : Int) (S1 : Mem), x - y < (n21 : Int) → y = (i : Int) → (i : Int) ≤ x → ngN i S0 S1 → MW C g 5 (0, 0) 21 [(0, .ref (g.2.2 18)), (1, .int (z32 x)), (2, .int (z32 y))] [] S1 := by
      intro n21
      induction n21 with
      | zero => intros; exfalso; omega
      | succ n21 ih21 =>
        intro i y S1 hm21 hy hi hN
        have hgd := ngN_gd hN hn0 (by omega)
        have h18 : S1 18 0 = 0 := by rw [hgd.2.2]; exact h00
        have hgA := hgd.1.1
        obtain ⟨rr1, rr2, rr3, rr4, rr5, rr6, rr7⟩ := hgA
        refine m_iload_n hC dX5_night_21 2 rfl ?_
        refine m_iload_n hC dX5_night_22 1 rfl ?_
        refine m_icmp_ge (tgt := 111) hC dX5_night_23 (by decide) (by omega) (by omega) (fun c_23 => ?_) (fun c_23 => ?_)
        · refine m_aload_n hC dX5_night_111 0 rfl ?_
          refine m_getI (o := 18) (j := 0) (ji := 0) (CN := RX5) (T := TX5) (N := 19) hC iX5_night_5 fX5_night_54 rfl dX5_night_112 rfl rfl (by decide) rfl rfl ?_
          try simp (decide := true) only [mset_o, mset_hit]
          refine m_if_le (tgt := 122) hC dX5_night_115 (by decide) (by omega) (fun c_115 => ?_) (fun c_115 => ?_)
          · refine m_aload_n hC dX5_night_122 0 rfl ?_
            refine m_getI (o := 18) (j := 14) (ji := 14) (CN := RX5) (T := TX5) (N := 19) hC iX5_night_5 fX5_night_75 rfl dX5_night_123 rfl rfl (by decide) rfl rfl ?_
            try simp (decide := true) only [mset_o, mset_hit]
            refine m_iretx hC hR (Or.inl rfl) dX5_night_126 ⟨Nat.le_of_ble_eq_true rfl, Nat.le_of_ble_eq_true rfl⟩ ?_
            first | (exfalso; omega) | (refine ⟨fun _ => by rw [hcd]; rfl, fun q => absurd (hcd.symm.trans q) (by decide)⟩; done) | (refine ⟨fun q => absurd hcd q, fun _ => ⟨rfl, ?_⟩⟩; rw [← hS0, show x.toNat = i by omega]; exact hN)
          · refine m_iconst (v := 0) hC dX5_night_118 (by decide) ?_
            refine m_goto (tgt := 126) hC dX5_night_119 (by decide) ?_
            refine m_iretx hC hR (Or.inl rfl) dX5_night_126 ⟨Nat.le_of_ble_eq_true rfl, Nat.le_of_ble_eq_true rfl⟩ ?_
            first | (exfalso; omega) | (refine ⟨fun _ => by rw [hcd]; rfl, fun q => absurd (hcd.symm.trans q) (by decide)⟩; done) | (refine ⟨fun q => absurd hcd q, fun _ => ⟨rfl, ?_⟩⟩; rw [← hS0, show x.toNat = i by omega]; exact hN)
        · refine m_aload_n hC dX5_night_26 0 rfl ?_
          refine m_getI (o := 18) (j := 0) (ji := 0) (CN := RX5) (T := TX5) (N := 19) hC iX5_night_5 fX5_night_54 rfl dX5_night_27 rfl rfl (by decide) rfl rfl ?_
          try simp (decide := true) only [mset_o, mset_hit]
          refine m_if_ne (tgt := 111) hC dX5_night_30 (by decide) (by omega) (fun c_30 => ?_) (fun c_30 => ?_)
          · refine m_aload_n hC dX5_night_111 0 rfl ?_
            refine m_getI (o := 18) (j := 0) (ji := 0) (CN := RX5) (T := TX5) (N := 19) hC iX5_night_5 fX5_night_54 rfl dX5_night_112 rfl rfl (by decide) rfl rfl ?_
            try simp (decide := true) only [mset_o, mset_hit]
            refine m_if_le (tgt := 122) hC dX5_night_115 (by decide) (by omega) (fun c_115 => ?_) (fun c_115 => ?_)
            · refine m_aload_n hC dX5_night_122 0 rfl ?_
              refine m_getI (o := 18) (j := 14) (ji := 14) (CN := RX5) (T := TX5) (N := 19) hC iX5_night_5 fX5_night_75 rfl dX5_night_123 rfl rfl (by decide) rfl rfl ?_
              try simp (decide := true) only [mset_o, mset_hit]
              refine m_iretx hC hR (Or.inl rfl) dX5_night_126 ⟨Nat.le_of_ble_eq_true rfl, Nat.le_of_ble_eq_true rfl⟩ ?_
              first | (exfalso; omega) | (refine ⟨fun _ => by rw [hcd]; rfl, fun q => absurd (hcd.symm.trans q) (by decide)⟩; done) | (refine ⟨fun q => absurd hcd q, fun _ => ⟨rfl, ?_⟩⟩; rw [← hS0, show x.toNat = i by omega]; exact hN)
            · refine m_iconst (v := 0) hC dX5_night_118 (by decide) ?_
              refine m_goto (tgt := 126) hC dX5_night_119 (by decide) ?_
              refine m_iretx hC hR (Or.inl rfl) dX5_night_126 ⟨Nat.le_of_ble_eq_true rfl, Nat.le_of_ble_eq_true rfl⟩ ?_
              first | (exfalso; omega) | (refine ⟨fun _ => by rw [hcd]; rfl, fun q => absurd (hcd.symm.trans q) (by decide)⟩; done) | (refine ⟨fun q => absurd hcd q, fun _ => ⟨rfl, ?_⟩⟩; rw [← hS0, show x.toNat = i by omega]; exact hN)
          · refine m_aload_n hC dX5_night_33 0 rfl ?_
            refine m_iconst (v := 0) hC dX5_night_34 (by decide) ?_
            refine m_putI (o := 18) (j := 16) (ji := 16) (CN := RX5) (T := TX5) (N := 19) hC iX5_night_5 fX5_night_127 rfl dX5_night_35 rfl rfl (by decide) rfl tyX5 tyX5_ok nmX5 rfl (by decide +kernel) rfl ?_
            refine m_iconst (v := 1) hC dX5_night_38 (by decide) ?_
            refine m_istore_n hC dX5_night_39 (fun z9 => [(3, .int (z32 z9)), (0, .ref (g.2.2 18)), (1, .int (z32 x)), (2, .int (z32 y))]) (by decide) (fun _ => rfl) (fun v3_39 hv3_39 => ?_)
            have L40 : ∀ (n40 : Nat) (n : Nat) (v : Int) (S2 : Mem), 57 - (n : Int) + v < (n40 : Int) → v = 0 ∨ v = 1 → nrR S1 n S2 → (v = 0 → fnd (Gb (rgN (S1 21) (S1 20) n) (S1 21)) = none) → MW C g 5 (0, 0) 40 [(0, .ref (g.2.2 18)), (1, .int (z32 x)), (2, .int (z32 y)), (3, .int (z32 v))] [] S2 := by
              intro n40
              induction n40 with
              | zero => intros; exfalso; rename_i n v S2 h0 h1 h2 h3; have q56 : n ≤ 56 := (by obtain ⟨_, _, _, _, q, _⟩ := h2; exact q); omega
              | succ n40 ih40 =>
                intro n v S2 hm40 hv hR2 hE
                have hk := nrR_gd hR2 hgd.1
                have hm2 := nrR_mem hR2
                have hn56 : n ≤ 56 := by obtain ⟨_, _, _, _, q, _⟩ := hR2; exact q
                refine m_iload_n hC dX5_night_40 3 rfl ?_
                refine m_if_eq (tgt := 52) hC dX5_night_41 (by decide) (by omega) (fun c_41 => ?_) (fun c_41 => ?_)
                · refine m_iconst (v := 0) hC dX5_night_52 (by decide) ?_
                  refine m_istore hC dX5_night_53 (fun z9 => [(4, .int (z32 z9)), (0, .ref (g.2.2 18)), (1, .int (z32 x)), (2, .int (z32 y)), (3, .int (z32 v))]) (by decide) (fun _ => rfl) (fun v4_53 hv4_53 => ?_)
                  have L55 : ∀ (n55 : Nat) (k : Nat) (z : Int) (S3 : Mem), S1 18 1 - z < (n55 : Int) → z = (k : Int) → (k : Int) ≤ S1 18 1 → S3 = mput S2 20 (fyA S2 (S2 20) k) → MW C g 5 (0, 0) 55 [(0, .ref (g.2.2 18)), (1, .int (z32 x)), (2, .int (z32 y)), (3, .int (z32 v)), (4, .int (z32 z))] [] S3 := by
                    intro n55
                    induction n55 with
                    | zero => intros; exfalso; omega
                    | succ n55 ih55 =>
                      intro k z S3 hm55 hz hkk hS3
                      have hfo := fyA_ok (S := S2) (n := k) hk.1.1 ⟨hk.1.2.1, hk.1.2.2.1, le8_rf _⟩ (by omega)
                      have e20 : S3 20 = fyA S2 (S2 20) k := by rw [hS3]; rfl
                      have e21 : S3 21 = S2 21 := by rw [hS3]; rfl
                      have e18 : S3 18 = S2 18 := by rw [hS3]; rfl
                      have e19 : S3 19 = S2 19 := by rw [hS3]; rfl
                      have g3 : RgR S3 := by rw [hS3]; exact hk.1.1
                      have g3q := g3
                      obtain ⟨rz1, rz2, rz3, rz4, rz5, rz6, rz7⟩ := g3q
                      have rz6 := rz6 z
                      have ej : S3 18 1 = S1 18 1 := by rw [e18]; exact hm2.2.2.2.1 1 (by decide)
                      have e14 : S3 18 14 = S1 18 14 := by rw [e18]; exact hm2.2.2.2.1 14 (by decide)
                      have hlf := lazF_is (S := S2) (S3 := S3) (s := z) (by rw [e18]) (by rw [e18]) (by rw [hS3]; rfl) (by rw [hS3]; rfl) (by rw [hS3]; rfl)
                      refine m_iload hC dX5_night_55 4 rfl ?_
                      refine m_aload_n hC dX5_night_57 0 rfl ?_
                      refine m_getI (o := 18) (j := 1) (ji := 1) (CN := RX5) (T := TX5) (N := 19) hC iX5_night_5 fX5_night_57 rfl dX5_night_58 rfl rfl (by decide) rfl rfl ?_
                      try simp (decide := true) only [mset_o, mset_hit]
                      refine m_icmp_ge (tgt := 95) hC dX5_night_61 (by decide) (by omega) (by omega) (fun c_61 => ?_) (fun c_61 => ?_)
                      · have hN4 : ngN (i + 1) S0 (mset S3 18 14 (S3 18 14 + 1)) := ⟨S1, hN, n, S2, hR2, hE (by omega), by rw [e14, hS3, show k = (S1 18 1).toNat by omega]⟩
                        refine m_aload_n hC dX5_night_95 0 rfl ?_
                        refine m_dup hC dX5_night_96 rfl ?_
                        refine m_getI (o := 18) (j := 14) (ji := 14) (CN := RX5) (T := TX5) (N := 19) hC iX5_night_5 fX5_night_75 rfl dX5_night_97 rfl rfl (by decide) rfl rfl ?_
                        try simp (decide := true) only [mset_o, mset_hit]
                        refine m_iconst (v := 1) hC dX5_night_100 (by decide) ?_
                        refine m_iadd hC dX5_night_101 ?_
                        refine m_putI (o := 18) (j := 14) (ji := 14) (CN := RX5) (T := TX5) (N := 19) hC iX5_night_5 fX5_night_75 rfl dX5_night_102 rfl rfl (by decide) rfl tyX5 tyX5_ok nmX5 rfl (by decide +kernel) rfl ?_
                        refine m_iinc hC dX5_night_105 2 rfl (fun z9 => [(2, .int (z32 z9)), (0, .ref (g.2.2 18)), (1, .int (z32 x)), (3, .int (z32 v)), (4, .int (z32 z))]) (by decide) (fun _ => rfl) (fun v2_105 hv2_105 => ?_)
                        refine m_goto (tgt := 21) hC dX5_night_108 (by decide) ?_
                        refine m_locals [1, 2, 0] rfl ?_
                        exact ih21 (i + 1) v2_105 _ (by omega) (by omega) (by omega) (hN4)
                      · refine m_aload_n hC dX5_night_64 0 rfl ?_
                        refine m_getR (o := 18) (j := 2) (a := 19) (CN := RX5) (T := TX5) (N := 19) hC iX5_night_5 fX5_night_7 rfl dX5_night_65 rfl rfl (by decide) rfl ?_
                        refine m_iload hC dX5_night_68 4 rfl ?_
                        refine m_baload (o := 19) (n := 8) hC rfl dX5_night_70 (by omega) (by omega) (by decide) ?_
                        refine m_if_eq (tgt := 89) hC dX5_night_71 (by decide) (by omega) (fun c_71 => ?_) (fun c_71 => ?_)
                        · have hi0 : decide (S2 19 z = 1) = false := decide_eq_false (by rw [← e19]; omega)
                          refine m_iinc hC dX5_night_89 4 rfl (fun z9 => [(4, .int (z32 z9)), (0, .ref (g.2.2 18)), (1, .int (z32 x)), (2, .int (z32 y)), (3, .int (z32 v))]) (by decide) (fun _ => rfl) (fun v4_89 hv4_89 => ?_)
                          refine m_goto (tgt := 55) hC dX5_night_92 (by decide) ?_
                          refine m_locals [1, 2, 3, 4, 0] rfl ?_
                          exact ih55 (k + 1) v4_89 _ (by omega) (by omega) (by omega) (by rw [fyA_step, ← hz]; unfold fyF; first | (rw [hi0]; exact hS3) | (rw [hi1, ← e20, hlz]; show S3 = mput S2 20 (S3 20); rw [e20]; exact hS3) | (rw [hi1, ← e20, hlz]; exact hP))
                        · have hi1 : decide (S2 19 z = 1) = true := decide_eq_true (by rw [← e19]; omega)
                          refine m_aload_n hC dX5_night_74 0 rfl ?_
                          refine m_iload hC dX5_night_75 4 rfl ?_
                          refine m_callVi (n := 1) hC (c_X5_isLazy (by omega) g3 (by rw [e20]; exact hfo.1.1)) gX5_night_X5_isLazy rfl dX5_night_77 rfl rfl (by decide +kernel) ⟨Nat.le_of_ble_eq_true rfl, Nat.le_of_ble_eq_true rfl⟩ rfl (Nat.le_of_ble_eq_true rfl) ⟨Nat.le_of_ble_eq_true rfl, Nat.le_of_ble_eq_true rfl⟩ rfl ?_
                          refine m_if_eq (tgt := 89) hC dX5_night_80 (by decide) (bI_32 _) (fun c_80 => ?_) (fun c_80 => ?_)
                          · have b_80 := bI_0 c_80
                            have hlz : lazF S2 (S3 20) z = false := by rw [← hlf]; exact b_80
                            refine m_iinc hC dX5_night_89 4 rfl (fun z9 => [(4, .int (z32 z9)), (0, .ref (g.2.2 18)), (1, .int (z32 x)), (2, .int (z32 y)), (3, .int (z32 v))]) (by decide) (fun _ => rfl) (fun v4_89 hv4_89 => ?_)
                            refine m_goto (tgt := 55) hC dX5_night_92 (by decide) ?_
                            refine m_locals [1, 2, 3, 4, 0] rfl ?_
                            exact ih55 (k + 1) v4_89 _ (by omega) (by omega) (by omega) (by rw [fyA_step, ← hz]; unfold fyF; first | (rw [hi0]; exact hS3) | (rw [hi1, ← e20, hlz]; show S3 = mput S2 20 (S3 20); rw [e20]; exact hS3) | (rw [hi1, ← e20, hlz]; exact hP))
                          · have b_80 := bI_1 c_80
                            have hlz : lazF S2 (S3 20) z = true := by rw [← hlf]; exact b_80
                            refine m_aload_n hC dX5_night_83 0 rfl ?_
                            refine m_iload hC dX5_night_84 4 rfl ?_
                            refine m_callVvx (n := 1) hC (c_X5_pays (by omega) g3 (by rw [e20]; exact hfo.1) (by rw [e20, e21]; exact hfo.2.1)) gX5_night_X5_pays rfl dX5_night_86 rfl rfl (by decide +kernel) ⟨Nat.le_of_ble_eq_true rfl, Nat.le_of_ble_eq_true rfl⟩ rfl (Nat.le_of_ble_eq_true rfl) ⟨Nat.le_of_ble_eq_true rfl, Nat.le_of_ble_eq_true rfl⟩ rfl (fun S8 hv8 => ?_)
                            obtain ⟨n8, h8, hst8⟩ := hv8
                            have hP : S8 = mput S2 20 (pyE (S2 21) z (S3 20, (bl (S3 20) z * S2 18 15).tdiv 1000)).1 := by
                              rw [h8, pyE_is (by omega) (py0_ok g3 (by omega) (by rw [e20]; exact hfo.1) (by rw [e20, e21]; exact hfo.2.1)) hst8, e21, e18, hS3, mput_mput]
                            refine m_iinc hC dX5_night_89 4 rfl (fun z9 => [(4, .int (z32 z9)), (0, .ref (g.2.2 18)), (1, .int (z32 x)), (2, .int (z32 y)), (3, .int (z32 v))]) (by decide) (fun _ => rfl) (fun v4_89 hv4_89 => ?_)
                            refine m_goto (tgt := 55) hC dX5_night_92 (by decide) ?_
                            refine m_locals [1, 2, 3, 4, 0] rfl ?_
                            exact ih55 (k + 1) v4_89 _ (by omega) (by omega) (by omega) (by rw [fyA_step, ← hz]; unfold fyF; first | (rw [hi0]; exact hS3) | (rw [hi1, ← e20, hlz]; show S3 = mput S2 20 (S3 20); rw [e20]; exact hS3) | (rw [hi1, ← e20, hlz]; exact hP))
                  refine m_locals [1, 2, 3, 4, 0] rfl ?_
                  exact L55 10 0 v4_53 _ (by omega) (by omega) (by omega) ((mput_self S2 20).symm)
                · refine m_aload_n hC dX5_night_44 0 rfl ?_
                  refine m_callVix (n := 0) hC (c_X5_nets hk.1.2.2.2.1 hk.1.1 hk.1.2.1 hk.1.2.2.1 hk.1.2.2.2.2) gX5_night_X5_nets rfl dX5_night_45 rfl rfl (by decide +kernel) ⟨Nat.le_of_ble_eq_true rfl, Nat.le_of_ble_eq_true rfl⟩ rfl (Nat.le_of_ble_eq_true rfl) ⟨Nat.le_of_ble_eq_true rfl, Nat.le_of_ble_eq_true rfl⟩ rfl (fun v9 S9 hv9 => ?_)
                  obtain ⟨n5, hv5, hR5, hE5, hm5⟩ : ∃ n5 : Nat, (v9 = 0 ∨ v9 = 1) ∧ nrR S1 n5 S9 ∧ (v9 = 0 → fnd (Gb (rgN (S1 21) (S1 20) n5) (S1 21)) = none) ∧ 57 - (n5 : Int) + v9 < 57 - (n : Int) + v := by
                    rcases neP_v hv9 with q | q
                    · rw [q] at hv9
                      have hq := nrR_end hR2 hv9
                      exact ⟨n, Or.inl q, hq.1, fun _ => hq.2, by omega⟩
                    · rw [q] at hv9
                      exact ⟨n + 1, Or.inr q, nrR_step hR2 hgd.1.2.1 hgd.1.2.2.1 hv9, fun w => absurd (q.symm.trans w) (by decide), by omega⟩
                  refine m_istore_n hC dX5_night_48 (fun z9 => [(3, .int (z32 z9)), (0, .ref (g.2.2 18)), (1, .int (z32 x)), (2, .int (z32 y))]) (by decide) (fun _ => rfl) (fun v3_48 hv3_48 => ?_)
                  refine m_goto (tgt := 40) hC dX5_night_49 (by decide) ?_
                  refine m_locals [1, 2, 3, 0] rfl ?_
                  exact ih40 n5 v3_48 _ (by omega) (by rw [hv3_48]; exact hv5) (hR5) (by rw [hv3_48]; exact hE5)
            refine m_locals [1, 2, 3, 0] rfl ?_
            exact L40 60 0 v3_39 _ (by omega) (by omega) (nrR_0 hgd.1.2.2.2.1) (fun z => absurd (hv3_39.symm.trans z) (by decide))
    refine m_locals [1, 2, 0] rfl ?_
    exact L21 21 0 v2_20 _ (by omega) (by omega) (by omega) (hS0.symm)
