/-! ===== the law's cases: calls that only tell ===== -/
set_option maxHeartbeats 4000000 in
set_option maxRecDepth 100000 in
theorem law_balance {C : mX} {g : mG} {b L : Nat} {xs : Nat → Int32} {i : Int} {S : Mem} {k : Nat × Nat} (hC : mCtx C RL cL_law 7 wsL_law room_1 g) (hX : lCtx C) (hs : sCtx C b L xs) (hi : 0 ≤ i ∧ i + 4 ≤ (L : Int)) (hL : L ≤ 2048) (h : Iv S) (ht : S 18 14 + 20 ≤ 20000) (hk : k.1 + 5 ≤ room_1.cells ∧ k.2 + 30 ≤ room_1.slots) (kk : ∀ (S2 : Mem) (k2 : Nat × Nat), Iv S2 → S2 18 14 ≤ S 18 14 + 20 → k2.1 ≤ k.1 + 5 ∧ k2.2 ≤ k.2 + 30 → MW C g 7 k2 1364 [(0, .ref b), (1, .ref (g.2.2 0)), (2, .ref (g.2.2 18)), (3, .ref (g.2.2 32)), (4, .int (z32 i))] [] S2) : MW C g 7 k 724 [(0, .ref b), (1, .ref (g.2.2 0)), (2, .ref (g.2.2 18)), (3, .ref (g.2.2 32)), (4, .int (z32 i))] [] S := by
  have hg := Iv_rg h
  have hok := Iv_okC h
  have hfz := Iv_fzC h
  have hgu := Iv_guC h
  have hlr := Iv_lim h
  have hrw := Iv_rw8 h
  refine m_aload_n hC dL_law_724 1 rfl ?_
  refine m_aload_n hC dL_law_725 0 rfl ?_
  refine m_iload hC dL_law_726 4 rfl ?_
  refine m_iconst (v := 1) hC dL_law_728 (by decide) ?_
  refine m_iadd hC dL_law_729 ?_
  refine m_sld hC hs dL_law_730 (by omega) (by omega) (by omega) ?_
  refine m_aload_n hC dL_law_731 3 rfl ?_
  refine m_callLi (n := 3) (P := WPq S (cxBal S (scv xs (i + 1))) (bl (S 8) (scv xs (i + 1))) (trOne (cxBal S (scv xs (i + 1)))) (S)) hC hX (c_L_balance (scv_r xs (i + 1)) hg (hv_bal h)) gL_law_L_balance rfl dL_law_732 (by decide +kernel) ⟨(Nat.le_of_ble_eq_true rfl), (Nat.le_of_ble_eq_true rfl)⟩ rfl (Nat.le_of_ble_eq_true rfl) ⟨(Nat.le_of_ble_eq_true rfl), (Nat.le_of_ble_eq_true rfl)⟩ hk rfl (fun r S1 k1 hw hk1 => ?_)
  have hu := up_gen (fun _ _ => rfl) hw
  have hM : Iv (mg S S1) := up_M h hu
  refine m_istore hC dL_law_735 (fun z9 => [(5, .int (z32 z9)), (0, .ref b), (1, .ref (g.2.2 0)), (2, .ref (g.2.2 18)), (3, .ref (g.2.2 32)), (4, .int (z32 i))]) (by decide) (fun _ => rfl) (fun y5 hy5 => ?_)
  replace hy5 := hy5.symm
  subst hy5
  refine m_aload_n hC dL_law_737 3 rfl ?_
  refine m_aload_n hC dL_law_738 1 rfl ?_
  refine m_iload hC dL_law_739 5 rfl ?_
  refine m_iconst (v := 1) hC dL_law_741 (by decide) ?_
  refine m_iadd hC dL_law_742 ?_
  refine m_sld hC hs dL_law_743 (by omega) (by omega) (by omega) ?_
  refine m_callVix (n := 1) hC (c_X5_balance (scv_r xs (i + 1)) hM.2.1) gL_law_X5_balance rfl dL_law_744 rfl rfl (by decide +kernel) ⟨(Nat.le_of_ble_eq_true rfl), (Nat.le_of_ble_eq_true rfl)⟩ rfl (Nat.le_of_ble_eq_true rfl) ⟨by omega, by omega⟩ rfl (fun v S2 hr => ?_)
  obtain ⟨F1, F2, F3, F4, F5⟩ : Fnl S S2 r v := fin_bal h hw hM hr
  refine m_istore hC dL_law_747 (fun z9 => [(6, .int (z32 z9)), (5, .int (z32 r)), (0, .ref b), (1, .ref (g.2.2 0)), (2, .ref (g.2.2 18)), (3, .ref (g.2.2 32)), (4, .int (z32 i))]) (by decide) (fun _ => rfl) (fun y6 hy6 => ?_)
  replace hy6 := hy6.symm
  subst hy6
  refine m_aload_n hC dL_law_749 4 rfl ?_
  refine m_callVi (n := 0) hC (c_X5_thrown) gL_law_X5_thrown rfl dL_law_750 rfl rfl (by decide +kernel) ⟨(Nat.le_of_ble_eq_true rfl), (Nat.le_of_ble_eq_true rfl)⟩ rfl (Nat.le_of_ble_eq_true rfl) ⟨by omega, by omega⟩ rfl ?_
  refine m_iload hC dL_law_753 1 rfl ?_
  refine m_icmp_eq (tgt := 760) hC dL_law_755 (by decide) (by omega) (by omega) (fun c_755 => ?_) (fun c_755 => absurd F2 c_755)
  refine m_iload hC dL_law_760 1 rfl ?_
  refine m_if_ne (tgt := 777) hC dL_law_762 (by decide) (by omega) (fun c_762 => ?_) (fun c_762 => ?_)
  · refine m_goto (tgt := 1364) hC dL_law_777 (by decide) ?_
    refine m_locals [2, 3, 4, 5, 6] rfl ?_
    exact kk S2 k1 F1 F5 hk1
  · have hr0 : r = 0 := Decidable.of_not_not c_762
    obtain ⟨F6, F7⟩ := F4 hr0
    refine m_aload_n hC dL_law_765 5 rfl ?_
    refine m_iconst (v := 0) hC dL_law_766 (by decide) ?_
    refine m_laload (o := 32) (n := 1) hC rfl dL_law_767 (by omega) (by decide) (by decide) ?_
    refine m_iload hC dL_law_768 0 rfl ?_
    refine m_i2l hC dL_law_770 F7 ?_
    refine m_lcmp0 hC dL_law_771 (by omega) ?_
    refine m_if_eq (tgt := 777) hC dL_law_772 (by decide) (by omega) (fun _ => ?_) (fun c_772 => absurd rfl c_772)
    refine m_goto (tgt := 1364) hC dL_law_777 (by decide) ?_
    refine m_locals [2, 3, 4, 5, 6] rfl ?_
    exact kk S2 k1 F1 F5 hk1
set_option maxHeartbeats 4000000 in
set_option maxRecDepth 100000 in
theorem law_balanceAnew {C : mX} {g : mG} {b L : Nat} {xs : Nat → Int32} {i : Int} {S : Mem} {k : Nat × Nat} (hC : mCtx C RL cL_law 7 wsL_law room_1 g) (hX : lCtx C) (hs : sCtx C b L xs) (hi : 0 ≤ i ∧ i + 4 ≤ (L : Int)) (hL : L ≤ 2048) (h : Iv S) (ht : S 18 14 + 20 ≤ 20000) (hk : k.1 + 5 ≤ room_1.cells ∧ k.2 + 30 ≤ room_1.slots) (kk : ∀ (S2 : Mem) (k2 : Nat × Nat), Iv S2 → S2 18 14 ≤ S 18 14 + 20 → k2.1 ≤ k.1 + 5 ∧ k2.2 ≤ k.2 + 30 → MW C g 7 k2 1364 [(0, .ref b), (1, .ref (g.2.2 0)), (2, .ref (g.2.2 18)), (3, .ref (g.2.2 32)), (4, .int (z32 i))] [] S2) : MW C g 7 k 780 [(0, .ref b), (1, .ref (g.2.2 0)), (2, .ref (g.2.2 18)), (3, .ref (g.2.2 32)), (4, .int (z32 i))] [] S := by
  have hg := Iv_rg h
  have hok := Iv_okC h
  have hfz := Iv_fzC h
  have hgu := Iv_guC h
  have hlr := Iv_lim h
  have hrw := Iv_rw8 h
  refine m_aload_n hC dL_law_780 1 rfl ?_
  refine m_aload_n hC dL_law_781 0 rfl ?_
  refine m_iload hC dL_law_782 4 rfl ?_
  refine m_iconst (v := 1) hC dL_law_784 (by decide) ?_
  refine m_iadd hC dL_law_785 ?_
  refine m_sld hC hs dL_law_786 (by omega) (by omega) (by omega) ?_
  refine m_aload_n hC dL_law_787 3 rfl ?_
  refine m_callLi (n := 3) (P := WPq S (cxBal S (scv xs (i + 1))) (sI (balF S (scv xs (i + 1))) (S 3 1).toNat + col (S 14) (scv xs (i + 1)) - row (S 14) (scv xs (i + 1))) (trOne (cxBal S (scv xs (i + 1)))) (S)) hC hX (c_L_balanceAnew (scv_r xs (i + 1)) hg (hv_balA h)) gL_law_L_balanceAnew rfl dL_law_788 (by decide +kernel) ⟨(Nat.le_of_ble_eq_true rfl), (Nat.le_of_ble_eq_true rfl)⟩ rfl (Nat.le_of_ble_eq_true rfl) ⟨(Nat.le_of_ble_eq_true rfl), (Nat.le_of_ble_eq_true rfl)⟩ hk rfl (fun r S1 k1 hw hk1 => ?_)
  have hu := up_gen (fun _ _ => rfl) hw
  have hM : Iv (mg S S1) := up_M h hu
  refine m_istore hC dL_law_791 (fun z9 => [(5, .int (z32 z9)), (0, .ref b), (1, .ref (g.2.2 0)), (2, .ref (g.2.2 18)), (3, .ref (g.2.2 32)), (4, .int (z32 i))]) (by decide) (fun _ => rfl) (fun y5 hy5 => ?_)
  replace hy5 := hy5.symm
  subst hy5
  refine m_aload_n hC dL_law_793 3 rfl ?_
  refine m_aload_n hC dL_law_794 1 rfl ?_
  refine m_iload hC dL_law_795 5 rfl ?_
  refine m_iconst (v := 1) hC dL_law_797 (by decide) ?_
  refine m_iadd hC dL_law_798 ?_
  refine m_sld hC hs dL_law_799 (by omega) (by omega) (by omega) ?_
  refine m_callVix (n := 1) hC (c_X5_balanceAnew (scv_r xs (i + 1)) hM.2.1) gL_law_X5_balanceAnew rfl dL_law_800 rfl rfl (by decide +kernel) ⟨(Nat.le_of_ble_eq_true rfl), (Nat.le_of_ble_eq_true rfl)⟩ rfl (Nat.le_of_ble_eq_true rfl) ⟨by omega, by omega⟩ rfl (fun v S2 hr => ?_)
  obtain ⟨F1, F2, F3, F4, F5⟩ : Fnl S S2 r v := fin_balA h hw hM hr
  refine m_istore hC dL_law_803 (fun z9 => [(6, .int (z32 z9)), (5, .int (z32 r)), (0, .ref b), (1, .ref (g.2.2 0)), (2, .ref (g.2.2 18)), (3, .ref (g.2.2 32)), (4, .int (z32 i))]) (by decide) (fun _ => rfl) (fun y6 hy6 => ?_)
  replace hy6 := hy6.symm
  subst hy6
  refine m_aload_n hC dL_law_805 4 rfl ?_
  refine m_callVi (n := 0) hC (c_X5_thrown) gL_law_X5_thrown rfl dL_law_806 rfl rfl (by decide +kernel) ⟨(Nat.le_of_ble_eq_true rfl), (Nat.le_of_ble_eq_true rfl)⟩ rfl (Nat.le_of_ble_eq_true rfl) ⟨by omega, by omega⟩ rfl ?_
  refine m_iload hC dL_law_809 1 rfl ?_
  refine m_icmp_eq (tgt := 816) hC dL_law_811 (by decide) (by omega) (by omega) (fun c_811 => ?_) (fun c_811 => absurd F2 c_811)
  refine m_iload hC dL_law_816 1 rfl ?_
  refine m_if_ne (tgt := 833) hC dL_law_818 (by decide) (by omega) (fun c_818 => ?_) (fun c_818 => ?_)
  · refine m_goto (tgt := 1364) hC dL_law_833 (by decide) ?_
    refine m_locals [2, 3, 4, 5, 6] rfl ?_
    exact kk S2 k1 F1 F5 hk1
  · have hr0 : r = 0 := Decidable.of_not_not c_818
    obtain ⟨F6, F7⟩ := F4 hr0
    refine m_aload_n hC dL_law_821 5 rfl ?_
    refine m_iconst (v := 0) hC dL_law_822 (by decide) ?_
    refine m_laload (o := 32) (n := 1) hC rfl dL_law_823 (by omega) (by decide) (by decide) ?_
    refine m_iload hC dL_law_824 0 rfl ?_
    refine m_i2l hC dL_law_826 F7 ?_
    refine m_lcmp0 hC dL_law_827 (by omega) ?_
    refine m_if_eq (tgt := 833) hC dL_law_828 (by decide) (by omega) (fun _ => ?_) (fun c_828 => absurd rfl c_828)
    refine m_goto (tgt := 1364) hC dL_law_833 (by decide) ?_
    refine m_locals [2, 3, 4, 5, 6] rfl ?_
    exact kk S2 k1 F1 F5 hk1
set_option maxHeartbeats 4000000 in
set_option maxRecDepth 100000 in
theorem law_limit {C : mX} {g : mG} {b L : Nat} {xs : Nat → Int32} {i : Int} {S : Mem} {k : Nat × Nat} (hC : mCtx C RL cL_law 7 wsL_law room_1 g) (hX : lCtx C) (hs : sCtx C b L xs) (hi : 0 ≤ i ∧ i + 4 ≤ (L : Int)) (hL : L ≤ 2048) (h : Iv S) (ht : S 18 14 + 20 ≤ 20000) (hk : k.1 + 5 ≤ room_1.cells ∧ k.2 + 30 ≤ room_1.slots) (kk : ∀ (S2 : Mem) (k2 : Nat × Nat), Iv S2 → S2 18 14 ≤ S 18 14 + 20 → k2.1 ≤ k.1 + 5 ∧ k2.2 ≤ k.2 + 30 → MW C g 7 k2 1364 [(0, .ref b), (1, .ref (g.2.2 0)), (2, .ref (g.2.2 18)), (3, .ref (g.2.2 32)), (4, .int (z32 i))] [] S2) : MW C g 7 k 836 [(0, .ref b), (1, .ref (g.2.2 0)), (2, .ref (g.2.2 18)), (3, .ref (g.2.2 32)), (4, .int (z32 i))] [] S := by
  have hg := Iv_rg h
  have hok := Iv_okC h
  have hfz := Iv_fzC h
  have hgu := Iv_guC h
  have hlr := Iv_lim h
  have hrw := Iv_rw8 h
  refine m_aload_n hC dL_law_836 1 rfl ?_
  refine m_aload_n hC dL_law_837 0 rfl ?_
  refine m_iload hC dL_law_838 4 rfl ?_
  refine m_iconst (v := 1) hC dL_law_840 (by decide) ?_
  refine m_iadd hC dL_law_841 ?_
  refine m_sld hC hs dL_law_842 (by omega) (by omega) (by omega) ?_
  refine m_aload_n hC dL_law_843 3 rfl ?_
  refine m_callLi (n := 3) (P := WPq S (cxLim S (scv xs (i + 1))) (lim S (scv xs (i + 1))) (trOne (cxLim S (scv xs (i + 1)))) (S)) hC hX (c_L_limit (scv_r xs (i + 1)) hg (hv_lim h)) gL_law_L_limit rfl dL_law_844 (by decide +kernel) ⟨(Nat.le_of_ble_eq_true rfl), (Nat.le_of_ble_eq_true rfl)⟩ rfl (Nat.le_of_ble_eq_true rfl) ⟨(Nat.le_of_ble_eq_true rfl), (Nat.le_of_ble_eq_true rfl)⟩ hk rfl (fun r S1 k1 hw hk1 => ?_)
  have hu := up_gen (fun _ _ => rfl) hw
  have hM : Iv (mg S S1) := up_M h hu
  refine m_istore hC dL_law_847 (fun z9 => [(5, .int (z32 z9)), (0, .ref b), (1, .ref (g.2.2 0)), (2, .ref (g.2.2 18)), (3, .ref (g.2.2 32)), (4, .int (z32 i))]) (by decide) (fun _ => rfl) (fun y5 hy5 => ?_)
  replace hy5 := hy5.symm
  subst hy5
  refine m_aload_n hC dL_law_849 3 rfl ?_
  refine m_aload_n hC dL_law_850 1 rfl ?_
  refine m_iload hC dL_law_851 5 rfl ?_
  refine m_iconst (v := 1) hC dL_law_853 (by decide) ?_
  refine m_iadd hC dL_law_854 ?_
  refine m_sld hC hs dL_law_855 (by omega) (by omega) (by omega) ?_
  refine m_callVix (n := 1) hC (c_X5_limit (scv_r xs (i + 1)) hM.2.1) gL_law_X5_limit rfl dL_law_856 rfl rfl (by decide +kernel) ⟨(Nat.le_of_ble_eq_true rfl), (Nat.le_of_ble_eq_true rfl)⟩ rfl (Nat.le_of_ble_eq_true rfl) ⟨by omega, by omega⟩ rfl (fun v S2 hr => ?_)
  obtain ⟨F1, F2, F3, F4, F5⟩ : Fnl S S2 r v := fin_lim h hw hM hr
  refine m_istore hC dL_law_859 (fun z9 => [(6, .int (z32 z9)), (5, .int (z32 r)), (0, .ref b), (1, .ref (g.2.2 0)), (2, .ref (g.2.2 18)), (3, .ref (g.2.2 32)), (4, .int (z32 i))]) (by decide) (fun _ => rfl) (fun y6 hy6 => ?_)
  replace hy6 := hy6.symm
  subst hy6
  refine m_aload_n hC dL_law_861 4 rfl ?_
  refine m_callVi (n := 0) hC (c_X5_thrown) gL_law_X5_thrown rfl dL_law_862 rfl rfl (by decide +kernel) ⟨(Nat.le_of_ble_eq_true rfl), (Nat.le_of_ble_eq_true rfl)⟩ rfl (Nat.le_of_ble_eq_true rfl) ⟨by omega, by omega⟩ rfl ?_
  refine m_iload hC dL_law_865 1 rfl ?_
  refine m_icmp_eq (tgt := 872) hC dL_law_867 (by decide) (by omega) (by omega) (fun c_867 => ?_) (fun c_867 => absurd F2 c_867)
  refine m_iload hC dL_law_872 1 rfl ?_
  refine m_if_ne (tgt := 889) hC dL_law_874 (by decide) (by omega) (fun c_874 => ?_) (fun c_874 => ?_)
  · refine m_goto (tgt := 1364) hC dL_law_889 (by decide) ?_
    refine m_locals [2, 3, 4, 5, 6] rfl ?_
    exact kk S2 k1 F1 F5 hk1
  · have hr0 : r = 0 := Decidable.of_not_not c_874
    obtain ⟨F6, F7⟩ := F4 hr0
    refine m_aload_n hC dL_law_877 5 rfl ?_
    refine m_iconst (v := 0) hC dL_law_878 (by decide) ?_
    refine m_laload (o := 32) (n := 1) hC rfl dL_law_879 (by omega) (by decide) (by decide) ?_
    refine m_iload hC dL_law_880 0 rfl ?_
    refine m_i2l hC dL_law_882 F7 ?_
    refine m_lcmp0 hC dL_law_883 (by omega) ?_
    refine m_if_eq (tgt := 889) hC dL_law_884 (by decide) (by omega) (fun _ => ?_) (fun c_884 => absurd rfl c_884)
    refine m_goto (tgt := 1364) hC dL_law_889 (by decide) ?_
    refine m_locals [2, 3, 4, 5, 6] rfl ?_
    exact kk S2 k1 F1 F5 hk1
set_option maxHeartbeats 4000000 in
set_option maxRecDepth 100000 in
theorem law_owes {C : mX} {g : mG} {b L : Nat} {xs : Nat → Int32} {i : Int} {S : Mem} {k : Nat × Nat} (hC : mCtx C RL cL_law 7 wsL_law room_1 g) (hX : lCtx C) (hs : sCtx C b L xs) (hi : 0 ≤ i ∧ i + 4 ≤ (L : Int)) (hL : L ≤ 2048) (h : Iv S) (ht : S 18 14 + 20 ≤ 20000) (hk : k.1 + 5 ≤ room_1.cells ∧ k.2 + 30 ≤ room_1.slots) (kk : ∀ (S2 : Mem) (k2 : Nat × Nat), Iv S2 → S2 18 14 ≤ S 18 14 + 20 → k2.1 ≤ k.1 + 5 ∧ k2.2 ≤ k.2 + 30 → MW C g 7 k2 1364 [(0, .ref b), (1, .ref (g.2.2 0)), (2, .ref (g.2.2 18)), (3, .ref (g.2.2 32)), (4, .int (z32 i))] [] S2) : MW C g 7 k 892 [(0, .ref b), (1, .ref (g.2.2 0)), (2, .ref (g.2.2 18)), (3, .ref (g.2.2 32)), (4, .int (z32 i))] [] S := by
  have hg := Iv_rg h
  have hok := Iv_okC h
  have hfz := Iv_fzC h
  have hgu := Iv_guC h
  have hlr := Iv_lim h
  have hrw := Iv_rw8 h
  refine m_aload_n hC dL_law_892 1 rfl ?_
  refine m_aload_n hC dL_law_893 0 rfl ?_
  refine m_iload hC dL_law_894 4 rfl ?_
  refine m_iconst (v := 1) hC dL_law_896 (by decide) ?_
  refine m_iadd hC dL_law_897 ?_
  refine m_sld hC hs dL_law_898 (by omega) (by omega) (by omega) ?_
  refine m_aload_n hC dL_law_899 0 rfl ?_
  refine m_iload hC dL_law_900 4 rfl ?_
  refine m_iconst (v := 2) hC dL_law_902 (by decide) ?_
  refine m_iadd hC dL_law_903 ?_
  refine m_sld hC hs dL_law_904 (by omega) (by omega) (by omega) ?_
  refine m_aload_n hC dL_law_905 3 rfl ?_
  refine m_callLi (n := 4) (P := WPq S (cxOwes S (scv xs (i + 1)) (scv xs (i + 2))) (S 8 (ix (scv xs (i + 1)) (scv xs (i + 2)))) (trOne (cxOwes S (scv xs (i + 1)) (scv xs (i + 2)))) (S)) hC hX (c_L_owes (scv_r xs (i + 1)) (scv_r xs (i + 2)) hg (hv_owes h)) gL_law_L_owes rfl dL_law_906 (by decide +kernel) ⟨(Nat.le_of_ble_eq_true rfl), (Nat.le_of_ble_eq_true rfl)⟩ rfl (Nat.le_of_ble_eq_true rfl) ⟨(Nat.le_of_ble_eq_true rfl), (Nat.le_of_ble_eq_true rfl)⟩ hk rfl (fun r S1 k1 hw hk1 => ?_)
  have hu := up_gen (fun _ _ => rfl) hw
  have hM : Iv (mg S S1) := up_M h hu
  refine m_istore hC dL_law_909 (fun z9 => [(5, .int (z32 z9)), (0, .ref b), (1, .ref (g.2.2 0)), (2, .ref (g.2.2 18)), (3, .ref (g.2.2 32)), (4, .int (z32 i))]) (by decide) (fun _ => rfl) (fun y5 hy5 => ?_)
  replace hy5 := hy5.symm
  subst hy5
  refine m_aload_n hC dL_law_911 3 rfl ?_
  refine m_aload_n hC dL_law_912 1 rfl ?_
  refine m_iload hC dL_law_913 5 rfl ?_
  refine m_iconst (v := 1) hC dL_law_915 (by decide) ?_
  refine m_iadd hC dL_law_916 ?_
  refine m_sld hC hs dL_law_917 (by omega) (by omega) (by omega) ?_
  refine m_aload_n hC dL_law_918 1 rfl ?_
  refine m_iload hC dL_law_919 5 rfl ?_
  refine m_iconst (v := 2) hC dL_law_921 (by decide) ?_
  refine m_iadd hC dL_law_922 ?_
  refine m_sld hC hs dL_law_923 (by omega) (by omega) (by omega) ?_
  refine m_callVix (n := 2) hC (c_X5_owes (scv_r xs (i + 1)) (scv_r xs (i + 2)) hM.2.1) gL_law_X5_owes rfl dL_law_924 rfl rfl (by decide +kernel) ⟨(Nat.le_of_ble_eq_true rfl), (Nat.le_of_ble_eq_true rfl)⟩ rfl (Nat.le_of_ble_eq_true rfl) ⟨by omega, by omega⟩ rfl (fun v S2 hr => ?_)
  obtain ⟨F1, F2, F3, F4, F5⟩ : Fnl S S2 r v := fin_owes h hw hM hr
  refine m_istore hC dL_law_927 (fun z9 => [(6, .int (z32 z9)), (5, .int (z32 r)), (0, .ref b), (1, .ref (g.2.2 0)), (2, .ref (g.2.2 18)), (3, .ref (g.2.2 32)), (4, .int (z32 i))]) (by decide) (fun _ => rfl) (fun y6 hy6 => ?_)
  replace hy6 := hy6.symm
  subst hy6
  refine m_aload_n hC dL_law_929 4 rfl ?_
  refine m_callVi (n := 0) hC (c_X5_thrown) gL_law_X5_thrown rfl dL_law_930 rfl rfl (by decide +kernel) ⟨(Nat.le_of_ble_eq_true rfl), (Nat.le_of_ble_eq_true rfl)⟩ rfl (Nat.le_of_ble_eq_true rfl) ⟨by omega, by omega⟩ rfl ?_
  refine m_iload hC dL_law_933 1 rfl ?_
  refine m_icmp_eq (tgt := 940) hC dL_law_935 (by decide) (by omega) (by omega) (fun c_935 => ?_) (fun c_935 => absurd F2 c_935)
  refine m_iload hC dL_law_940 1 rfl ?_
  refine m_if_ne (tgt := 957) hC dL_law_942 (by decide) (by omega) (fun c_942 => ?_) (fun c_942 => ?_)
  · refine m_goto (tgt := 1364) hC dL_law_957 (by decide) ?_
    refine m_locals [2, 3, 4, 5, 6] rfl ?_
    exact kk S2 k1 F1 F5 hk1
  · have hr0 : r = 0 := Decidable.of_not_not c_942
    obtain ⟨F6, F7⟩ := F4 hr0
    refine m_aload_n hC dL_law_945 5 rfl ?_
    refine m_iconst (v := 0) hC dL_law_946 (by decide) ?_
    refine m_laload (o := 32) (n := 1) hC rfl dL_law_947 (by omega) (by decide) (by decide) ?_
    refine m_iload hC dL_law_948 0 rfl ?_
    refine m_i2l hC dL_law_950 F7 ?_
    refine m_lcmp0 hC dL_law_951 (by omega) ?_
    refine m_if_eq (tgt := 957) hC dL_law_952 (by decide) (by omega) (fun _ => ?_) (fun c_952 => absurd rfl c_952)
    refine m_goto (tgt := 1364) hC dL_law_957 (by decide) ?_
    refine m_locals [2, 3, 4, 5, 6] rfl ?_
    exact kk S2 k1 F1 F5 hk1
set_option maxHeartbeats 4000000 in
set_option maxRecDepth 100000 in
theorem law_frozen {C : mX} {g : mG} {b L : Nat} {xs : Nat → Int32} {i : Int} {S : Mem} {k : Nat × Nat} (hC : mCtx C RL cL_law 7 wsL_law room_1 g) (hX : lCtx C) (hs : sCtx C b L xs) (hi : 0 ≤ i ∧ i + 4 ≤ (L : Int)) (hL : L ≤ 2048) (h : Iv S) (ht : S 18 14 + 20 ≤ 20000) (hk : k.1 + 5 ≤ room_1.cells ∧ k.2 + 30 ≤ room_1.slots) (kk : ∀ (S2 : Mem) (k2 : Nat × Nat), Iv S2 → S2 18 14 ≤ S 18 14 + 20 → k2.1 ≤ k.1 + 5 ∧ k2.2 ≤ k.2 + 30 → MW C g 7 k2 1364 [(0, .ref b), (1, .ref (g.2.2 0)), (2, .ref (g.2.2 18)), (3, .ref (g.2.2 32)), (4, .int (z32 i))] [] S2) : MW C g 7 k 960 [(0, .ref b), (1, .ref (g.2.2 0)), (2, .ref (g.2.2 18)), (3, .ref (g.2.2 32)), (4, .int (z32 i))] [] S := by
  have hg := Iv_rg h
  have hok := Iv_okC h
  have hfz := Iv_fzC h
  have hgu := Iv_guC h
  have hlr := Iv_lim h
  have hrw := Iv_rw8 h
  refine m_aload_n hC dL_law_960 1 rfl ?_
  refine m_aload_n hC dL_law_961 0 rfl ?_
  refine m_iload hC dL_law_962 4 rfl ?_
  refine m_iconst (v := 1) hC dL_law_964 (by decide) ?_
  refine m_iadd hC dL_law_965 ?_
  refine m_sld hC hs dL_law_966 (by omega) (by omega) (by omega) ?_
  refine m_aload_n hC dL_law_967 0 rfl ?_
  refine m_iload hC dL_law_968 4 rfl ?_
  refine m_iconst (v := 2) hC dL_law_970 (by decide) ?_
  refine m_iadd hC dL_law_971 ?_
  refine m_sld hC hs dL_law_972 (by omega) (by omega) (by omega) ?_
  refine m_aload_n hC dL_law_973 3 rfl ?_
  refine m_callLi (n := 4) (P := WPq S (cxTwo S (scv xs (i + 1)) (scv xs (i + 2))) (S 10 (ix (scv xs (i + 1)) (scv xs (i + 2)))) (trOne (cxTwo S (scv xs (i + 1)) (scv xs (i + 2)))) (S)) hC hX (c_L_frozen (scv_r xs (i + 1)) (scv_r xs (i + 2)) hg (hv_froz h)) gL_law_L_frozen rfl dL_law_974 (by decide +kernel) ⟨(Nat.le_of_ble_eq_true rfl), (Nat.le_of_ble_eq_true rfl)⟩ rfl (Nat.le_of_ble_eq_true rfl) ⟨(Nat.le_of_ble_eq_true rfl), (Nat.le_of_ble_eq_true rfl)⟩ hk rfl (fun r S1 k1 hw hk1 => ?_)
  have hu := up_gen (fun _ _ => rfl) hw
  have hM : Iv (mg S S1) := up_M h hu
  refine m_istore hC dL_law_977 (fun z9 => [(5, .int (z32 z9)), (0, .ref b), (1, .ref (g.2.2 0)), (2, .ref (g.2.2 18)), (3, .ref (g.2.2 32)), (4, .int (z32 i))]) (by decide) (fun _ => rfl) (fun y5 hy5 => ?_)
  replace hy5 := hy5.symm
  subst hy5
  refine m_aload_n hC dL_law_979 3 rfl ?_
  refine m_aload_n hC dL_law_980 1 rfl ?_
  refine m_iload hC dL_law_981 5 rfl ?_
  refine m_iconst (v := 1) hC dL_law_983 (by decide) ?_
  refine m_iadd hC dL_law_984 ?_
  refine m_sld hC hs dL_law_985 (by omega) (by omega) (by omega) ?_
  refine m_aload_n hC dL_law_986 1 rfl ?_
  refine m_iload hC dL_law_987 5 rfl ?_
  refine m_iconst (v := 2) hC dL_law_989 (by decide) ?_
  refine m_iadd hC dL_law_990 ?_
  refine m_sld hC hs dL_law_991 (by omega) (by omega) (by omega) ?_
  refine m_callVix (n := 2) hC (c_X5_frozen (scv_r xs (i + 1)) (scv_r xs (i + 2)) hM.2.1) gL_law_X5_frozen rfl dL_law_992 rfl rfl (by decide +kernel) ⟨(Nat.le_of_ble_eq_true rfl), (Nat.le_of_ble_eq_true rfl)⟩ rfl (Nat.le_of_ble_eq_true rfl) ⟨by omega, by omega⟩ rfl (fun v S2 hr => ?_)
  obtain ⟨F1, F2, F3, F4, F5⟩ : Fnl S S2 r v := fin_froz h hw hM hr
  refine m_istore hC dL_law_995 (fun z9 => [(6, .int (z32 z9)), (5, .int (z32 r)), (0, .ref b), (1, .ref (g.2.2 0)), (2, .ref (g.2.2 18)), (3, .ref (g.2.2 32)), (4, .int (z32 i))]) (by decide) (fun _ => rfl) (fun y6 hy6 => ?_)
  replace hy6 := hy6.symm
  subst hy6
  refine m_aload_n hC dL_law_997 4 rfl ?_
  refine m_callVi (n := 0) hC (c_X5_thrown) gL_law_X5_thrown rfl dL_law_998 rfl rfl (by decide +kernel) ⟨(Nat.le_of_ble_eq_true rfl), (Nat.le_of_ble_eq_true rfl)⟩ rfl (Nat.le_of_ble_eq_true rfl) ⟨by omega, by omega⟩ rfl ?_
  refine m_iload hC dL_law_1001 1 rfl ?_
  refine m_icmp_eq (tgt := 1008) hC dL_law_1003 (by decide) (by omega) (by omega) (fun c_1003 => ?_) (fun c_1003 => absurd F2 c_1003)
  refine m_iload hC dL_law_1008 1 rfl ?_
  refine m_if_ne (tgt := 1025) hC dL_law_1010 (by decide) (by omega) (fun c_1010 => ?_) (fun c_1010 => ?_)
  · refine m_goto (tgt := 1364) hC dL_law_1025 (by decide) ?_
    refine m_locals [2, 3, 4, 5, 6] rfl ?_
    exact kk S2 k1 F1 F5 hk1
  · have hr0 : r = 0 := Decidable.of_not_not c_1010
    obtain ⟨F6, F7⟩ := F4 hr0
    refine m_aload_n hC dL_law_1013 5 rfl ?_
    refine m_iconst (v := 0) hC dL_law_1014 (by decide) ?_
    refine m_laload (o := 32) (n := 1) hC rfl dL_law_1015 (by omega) (by decide) (by decide) ?_
    refine m_iload hC dL_law_1016 0 rfl ?_
    refine m_i2l hC dL_law_1018 F7 ?_
    refine m_lcmp0 hC dL_law_1019 (by omega) ?_
    refine m_if_eq (tgt := 1025) hC dL_law_1020 (by decide) (by omega) (fun _ => ?_) (fun c_1020 => absurd rfl c_1020)
    refine m_goto (tgt := 1364) hC dL_law_1025 (by decide) ?_
    refine m_locals [2, 3, 4, 5, 6] rfl ?_
    exact kk S2 k1 F1 F5 hk1
set_option maxHeartbeats 4000000 in
set_option maxRecDepth 100000 in
theorem law_ofTrade {C : mX} {g : mG} {b L : Nat} {xs : Nat → Int32} {i : Int} {S : Mem} {k : Nat × Nat} (hC : mCtx C RL cL_law 7 wsL_law room_1 g) (hX : lCtx C) (hs : sCtx C b L xs) (hi : 0 ≤ i ∧ i + 4 ≤ (L : Int)) (hL : L ≤ 2048) (h : Iv S) (ht : S 18 14 + 20 ≤ 20000) (hk : k.1 + 5 ≤ room_1.cells ∧ k.2 + 30 ≤ room_1.slots) (kk : ∀ (S2 : Mem) (k2 : Nat × Nat), Iv S2 → S2 18 14 ≤ S 18 14 + 20 → k2.1 ≤ k.1 + 5 ∧ k2.2 ≤ k.2 + 30 → MW C g 7 k2 1364 [(0, .ref b), (1, .ref (g.2.2 0)), (2, .ref (g.2.2 18)), (3, .ref (g.2.2 32)), (4, .int (z32 i))] [] S2) : MW C g 7 k 1028 [(0, .ref b), (1, .ref (g.2.2 0)), (2, .ref (g.2.2 18)), (3, .ref (g.2.2 32)), (4, .int (z32 i))] [] S := by
  have hg := Iv_rg h
  have hok := Iv_okC h
  have hfz := Iv_fzC h
  have hgu := Iv_guC h
  have hlr := Iv_lim h
  have hrw := Iv_rw8 h
  refine m_aload_n hC dL_law_1028 1 rfl ?_
  refine m_aload_n hC dL_law_1029 0 rfl ?_
  refine m_iload hC dL_law_1030 4 rfl ?_
  refine m_iconst (v := 1) hC dL_law_1032 (by decide) ?_
  refine m_iadd hC dL_law_1033 ?_
  refine m_sld hC hs dL_law_1034 (by omega) (by omega) (by omega) ?_
  refine m_aload_n hC dL_law_1035 0 rfl ?_
  refine m_iload hC dL_law_1036 4 rfl ?_
  refine m_iconst (v := 2) hC dL_law_1038 (by decide) ?_
  refine m_iadd hC dL_law_1039 ?_
  refine m_sld hC hs dL_law_1040 (by omega) (by omega) (by omega) ?_
  refine m_aload_n hC dL_law_1041 3 rfl ?_
  refine m_callLi (n := 4) (P := WPq S (cxOfT S (scv xs (i + 1)) (scv xs (i + 2))) (trd S (scv xs (i + 1)) (scv xs (i + 2))) (tr12 (cxOfT S (scv xs (i + 1)) (scv xs (i + 2)))) (S)) hC hX (c_L_ofTrade (scv_r xs (i + 1)) (scv_r xs (i + 2)) hg (hv_ofT h)) gL_law_L_ofTrade rfl dL_law_1042 (by decide +kernel) ⟨(Nat.le_of_ble_eq_true rfl), (Nat.le_of_ble_eq_true rfl)⟩ rfl (Nat.le_of_ble_eq_true rfl) ⟨(Nat.le_of_ble_eq_true rfl), (Nat.le_of_ble_eq_true rfl)⟩ hk rfl (fun r S1 k1 hw hk1 => ?_)
  have hu := up_gen (fun _ _ => rfl) hw
  have hM : Iv (mg S S1) := up_M h hu
  refine m_istore hC dL_law_1045 (fun z9 => [(5, .int (z32 z9)), (0, .ref b), (1, .ref (g.2.2 0)), (2, .ref (g.2.2 18)), (3, .ref (g.2.2 32)), (4, .int (z32 i))]) (by decide) (fun _ => rfl) (fun y5 hy5 => ?_)
  replace hy5 := hy5.symm
  subst hy5
  refine m_aload_n hC dL_law_1047 3 rfl ?_
  refine m_aload_n hC dL_law_1048 1 rfl ?_
  refine m_iload hC dL_law_1049 5 rfl ?_
  refine m_iconst (v := 1) hC dL_law_1051 (by decide) ?_
  refine m_iadd hC dL_law_1052 ?_
  refine m_sld hC hs dL_law_1053 (by omega) (by omega) (by omega) ?_
  refine m_aload_n hC dL_law_1054 1 rfl ?_
  refine m_iload hC dL_law_1055 5 rfl ?_
  refine m_iconst (v := 2) hC dL_law_1057 (by decide) ?_
  refine m_iadd hC dL_law_1058 ?_
  refine m_sld hC hs dL_law_1059 (by omega) (by omega) (by omega) ?_
  refine m_callVix (n := 2) hC (c_X5_ofTrade (scv_r xs (i + 1)) (scv_r xs (i + 2)) hM.2.1) gL_law_X5_ofTrade rfl dL_law_1060 rfl rfl (by decide +kernel) ⟨(Nat.le_of_ble_eq_true rfl), (Nat.le_of_ble_eq_true rfl)⟩ rfl (Nat.le_of_ble_eq_true rfl) ⟨by omega, by omega⟩ rfl (fun v S2 hr => ?_)
  obtain ⟨F1, F2, F3, F4, F5⟩ : Fnl S S2 r v := fin_ofT h hw hM hr
  refine m_istore hC dL_law_1063 (fun z9 => [(6, .int (z32 z9)), (5, .int (z32 r)), (0, .ref b), (1, .ref (g.2.2 0)), (2, .ref (g.2.2 18)), (3, .ref (g.2.2 32)), (4, .int (z32 i))]) (by decide) (fun _ => rfl) (fun y6 hy6 => ?_)
  replace hy6 := hy6.symm
  subst hy6
  refine m_aload_n hC dL_law_1065 4 rfl ?_
  refine m_callVi (n := 0) hC (c_X5_thrown) gL_law_X5_thrown rfl dL_law_1066 rfl rfl (by decide +kernel) ⟨(Nat.le_of_ble_eq_true rfl), (Nat.le_of_ble_eq_true rfl)⟩ rfl (Nat.le_of_ble_eq_true rfl) ⟨by omega, by omega⟩ rfl ?_
  refine m_iload hC dL_law_1069 1 rfl ?_
  refine m_icmp_eq (tgt := 1076) hC dL_law_1071 (by decide) (by omega) (by omega) (fun c_1071 => ?_) (fun c_1071 => absurd F2 c_1071)
  refine m_iload hC dL_law_1076 1 rfl ?_
  refine m_if_ne (tgt := 1093) hC dL_law_1078 (by decide) (by omega) (fun c_1078 => ?_) (fun c_1078 => ?_)
  · refine m_goto (tgt := 1364) hC dL_law_1093 (by decide) ?_
    refine m_locals [2, 3, 4, 5, 6] rfl ?_
    exact kk S2 k1 F1 F5 hk1
  · have hr0 : r = 0 := Decidable.of_not_not c_1078
    obtain ⟨F6, F7⟩ := F4 hr0
    refine m_aload_n hC dL_law_1081 5 rfl ?_
    refine m_iconst (v := 0) hC dL_law_1082 (by decide) ?_
    refine m_laload (o := 32) (n := 1) hC rfl dL_law_1083 (by omega) (by decide) (by decide) ?_
    refine m_iload hC dL_law_1084 0 rfl ?_
    refine m_i2l hC dL_law_1086 F7 ?_
    refine m_lcmp0 hC dL_law_1087 (by omega) ?_
    refine m_if_eq (tgt := 1093) hC dL_law_1088 (by decide) (by omega) (fun _ => ?_) (fun c_1088 => absurd rfl c_1088)
    refine m_goto (tgt := 1364) hC dL_law_1093 (by decide) ?_
    refine m_locals [2, 3, 4, 5, 6] rfl ?_
    exact kk S2 k1 F1 F5 hk1
set_option maxHeartbeats 4000000 in
set_option maxRecDepth 100000 in
theorem law_guaranteed {C : mX} {g : mG} {b L : Nat} {xs : Nat → Int32} {i : Int} {S : Mem} {k : Nat × Nat} (hC : mCtx C RL cL_law 7 wsL_law room_1 g) (hX : lCtx C) (hs : sCtx C b L xs) (hi : 0 ≤ i ∧ i + 4 ≤ (L : Int)) (hL : L ≤ 2048) (h : Iv S) (ht : S 18 14 + 20 ≤ 20000) (hk : k.1 + 5 ≤ room_1.cells ∧ k.2 + 30 ≤ room_1.slots) (kk : ∀ (S2 : Mem) (k2 : Nat × Nat), Iv S2 → S2 18 14 ≤ S 18 14 + 20 → k2.1 ≤ k.1 + 5 ∧ k2.2 ≤ k.2 + 30 → MW C g 7 k2 1364 [(0, .ref b), (1, .ref (g.2.2 0)), (2, .ref (g.2.2 18)), (3, .ref (g.2.2 32)), (4, .int (z32 i))] [] S2) : MW C g 7 k 1096 [(0, .ref b), (1, .ref (g.2.2 0)), (2, .ref (g.2.2 18)), (3, .ref (g.2.2 32)), (4, .int (z32 i))] [] S := by
  have hg := Iv_rg h
  have hok := Iv_okC h
  have hfz := Iv_fzC h
  have hgu := Iv_guC h
  have hlr := Iv_lim h
  have hrw := Iv_rw8 h
  refine m_aload_n hC dL_law_1096 1 rfl ?_
  refine m_aload_n hC dL_law_1097 0 rfl ?_
  refine m_iload hC dL_law_1098 4 rfl ?_
  refine m_iconst (v := 1) hC dL_law_1100 (by decide) ?_
  refine m_iadd hC dL_law_1101 ?_
  refine m_sld hC hs dL_law_1102 (by omega) (by omega) (by omega) ?_
  refine m_aload_n hC dL_law_1103 0 rfl ?_
  refine m_iload hC dL_law_1104 4 rfl ?_
  refine m_iconst (v := 2) hC dL_law_1106 (by decide) ?_
  refine m_iadd hC dL_law_1107 ?_
  refine m_sld hC hs dL_law_1108 (by omega) (by omega) (by omega) ?_
  refine m_aload_n hC dL_law_1109 3 rfl ?_
  refine m_callLi (n := 4) (P := WPq S (cxTwo S (scv xs (i + 1)) (scv xs (i + 2))) (S 12 (ix (scv xs (i + 1)) (scv xs (i + 2)))) (trOne (cxTwo S (scv xs (i + 1)) (scv xs (i + 2)))) (S)) hC hX (c_L_guaranteed (scv_r xs (i + 1)) (scv_r xs (i + 2)) hg (hv_guad h)) gL_law_L_guaranteed rfl dL_law_1110 (by decide +kernel) ⟨(Nat.le_of_ble_eq_true rfl), (Nat.le_of_ble_eq_true rfl)⟩ rfl (Nat.le_of_ble_eq_true rfl) ⟨(Nat.le_of_ble_eq_true rfl), (Nat.le_of_ble_eq_true rfl)⟩ hk rfl (fun r S1 k1 hw hk1 => ?_)
  have hu := up_gen (fun _ _ => rfl) hw
  have hM : Iv (mg S S1) := up_M h hu
  refine m_istore hC dL_law_1113 (fun z9 => [(5, .int (z32 z9)), (0, .ref b), (1, .ref (g.2.2 0)), (2, .ref (g.2.2 18)), (3, .ref (g.2.2 32)), (4, .int (z32 i))]) (by decide) (fun _ => rfl) (fun y5 hy5 => ?_)
  replace hy5 := hy5.symm
  subst hy5
  refine m_aload_n hC dL_law_1115 3 rfl ?_
  refine m_aload_n hC dL_law_1116 1 rfl ?_
  refine m_iload hC dL_law_1117 5 rfl ?_
  refine m_iconst (v := 1) hC dL_law_1119 (by decide) ?_
  refine m_iadd hC dL_law_1120 ?_
  refine m_sld hC hs dL_law_1121 (by omega) (by omega) (by omega) ?_
  refine m_aload_n hC dL_law_1122 1 rfl ?_
  refine m_iload hC dL_law_1123 5 rfl ?_
  refine m_iconst (v := 2) hC dL_law_1125 (by decide) ?_
  refine m_iadd hC dL_law_1126 ?_
  refine m_sld hC hs dL_law_1127 (by omega) (by omega) (by omega) ?_
  refine m_callVix (n := 2) hC (c_X5_guaranteed (scv_r xs (i + 1)) (scv_r xs (i + 2)) hM.2.1) gL_law_X5_guaranteed rfl dL_law_1128 rfl rfl (by decide +kernel) ⟨(Nat.le_of_ble_eq_true rfl), (Nat.le_of_ble_eq_true rfl)⟩ rfl (Nat.le_of_ble_eq_true rfl) ⟨by omega, by omega⟩ rfl (fun v S2 hr => ?_)
  obtain ⟨F1, F2, F3, F4, F5⟩ : Fnl S S2 r v := fin_guad h hw hM hr
  refine m_istore hC dL_law_1131 (fun z9 => [(6, .int (z32 z9)), (5, .int (z32 r)), (0, .ref b), (1, .ref (g.2.2 0)), (2, .ref (g.2.2 18)), (3, .ref (g.2.2 32)), (4, .int (z32 i))]) (by decide) (fun _ => rfl) (fun y6 hy6 => ?_)
  replace hy6 := hy6.symm
  subst hy6
  refine m_aload_n hC dL_law_1133 4 rfl ?_
  refine m_callVi (n := 0) hC (c_X5_thrown) gL_law_X5_thrown rfl dL_law_1134 rfl rfl (by decide +kernel) ⟨(Nat.le_of_ble_eq_true rfl), (Nat.le_of_ble_eq_true rfl)⟩ rfl (Nat.le_of_ble_eq_true rfl) ⟨by omega, by omega⟩ rfl ?_
  refine m_iload hC dL_law_1137 1 rfl ?_
  refine m_icmp_eq (tgt := 1144) hC dL_law_1139 (by decide) (by omega) (by omega) (fun c_1139 => ?_) (fun c_1139 => absurd F2 c_1139)
  refine m_iload hC dL_law_1144 1 rfl ?_
  refine m_if_ne (tgt := 1161) hC dL_law_1146 (by decide) (by omega) (fun c_1146 => ?_) (fun c_1146 => ?_)
  · refine m_goto (tgt := 1364) hC dL_law_1161 (by decide) ?_
    refine m_locals [2, 3, 4, 5, 6] rfl ?_
    exact kk S2 k1 F1 F5 hk1
  · have hr0 : r = 0 := Decidable.of_not_not c_1146
    obtain ⟨F6, F7⟩ := F4 hr0
    refine m_aload_n hC dL_law_1149 5 rfl ?_
    refine m_iconst (v := 0) hC dL_law_1150 (by decide) ?_
    refine m_laload (o := 32) (n := 1) hC rfl dL_law_1151 (by omega) (by decide) (by decide) ?_
    refine m_iload hC dL_law_1152 0 rfl ?_
    refine m_i2l hC dL_law_1154 F7 ?_
    refine m_lcmp0 hC dL_law_1155 (by omega) ?_
    refine m_if_eq (tgt := 1161) hC dL_law_1156 (by decide) (by omega) (fun _ => ?_) (fun c_1156 => absurd rfl c_1156)
    refine m_goto (tgt := 1364) hC dL_law_1161 (by decide) ?_
    refine m_locals [2, 3, 4, 5, 6] rfl ?_
    exact kk S2 k1 F1 F5 hk1
set_option maxHeartbeats 4000000 in
set_option maxRecDepth 100000 in
theorem law_goods {C : mX} {g : mG} {b L : Nat} {xs : Nat → Int32} {i : Int} {S : Mem} {k : Nat × Nat} (hC : mCtx C RL cL_law 7 wsL_law room_1 g) (hX : lCtx C) (hs : sCtx C b L xs) (hi : 0 ≤ i ∧ i + 4 ≤ (L : Int)) (hL : L ≤ 2048) (h : Iv S) (ht : S 18 14 + 20 ≤ 20000) (hk : k.1 + 5 ≤ room_1.cells ∧ k.2 + 30 ≤ room_1.slots) (kk : ∀ (S2 : Mem) (k2 : Nat × Nat), Iv S2 → S2 18 14 ≤ S 18 14 + 20 → k2.1 ≤ k.1 + 5 ∧ k2.2 ≤ k.2 + 30 → MW C g 7 k2 1364 [(0, .ref b), (1, .ref (g.2.2 0)), (2, .ref (g.2.2 18)), (3, .ref (g.2.2 32)), (4, .int (z32 i))] [] S2) : MW C g 7 k 1164 [(0, .ref b), (1, .ref (g.2.2 0)), (2, .ref (g.2.2 18)), (3, .ref (g.2.2 32)), (4, .int (z32 i))] [] S := by
  have hg := Iv_rg h
  have hok := Iv_okC h
  have hfz := Iv_fzC h
  have hgu := Iv_guC h
  have hlr := Iv_lim h
  have hrw := Iv_rw8 h
  refine m_aload_n hC dL_law_1164 1 rfl ?_
  refine m_aload_n hC dL_law_1165 0 rfl ?_
  refine m_iload hC dL_law_1166 4 rfl ?_
  refine m_iconst (v := 1) hC dL_law_1168 (by decide) ?_
  refine m_iadd hC dL_law_1169 ?_
  refine m_sld hC hs dL_law_1170 (by omega) (by omega) (by omega) ?_
  refine m_aload_n hC dL_law_1171 3 rfl ?_
  refine m_callLi (n := 3) (P := WPq S (cxOne S (scv xs (i + 1))) (tg 8 2 (S 2) (scv xs (i + 1)) 1) (trOne (cxOne S (scv xs (i + 1)))) (S)) hC hX (c_L_goods (scv_r xs (i + 1)) hg (hv_goods h)) gL_law_L_goods rfl dL_law_1172 (by decide +kernel) ⟨(Nat.le_of_ble_eq_true rfl), (Nat.le_of_ble_eq_true rfl)⟩ rfl (Nat.le_of_ble_eq_true rfl) ⟨(Nat.le_of_ble_eq_true rfl), (Nat.le_of_ble_eq_true rfl)⟩ hk rfl (fun r S1 k1 hw hk1 => ?_)
  have hu := up_gen (fun _ _ => rfl) hw
  have hM : Iv (mg S S1) := up_M h hu
  refine m_istore hC dL_law_1175 (fun z9 => [(5, .int (z32 z9)), (0, .ref b), (1, .ref (g.2.2 0)), (2, .ref (g.2.2 18)), (3, .ref (g.2.2 32)), (4, .int (z32 i))]) (by decide) (fun _ => rfl) (fun y5 hy5 => ?_)
  replace hy5 := hy5.symm
  subst hy5
  refine m_aload_n hC dL_law_1177 3 rfl ?_
  refine m_aload_n hC dL_law_1178 1 rfl ?_
  refine m_iload hC dL_law_1179 5 rfl ?_
  refine m_iconst (v := 1) hC dL_law_1181 (by decide) ?_
  refine m_iadd hC dL_law_1182 ?_
  refine m_sld hC hs dL_law_1183 (by omega) (by omega) (by omega) ?_
  refine m_callVix (n := 1) hC (c_X5_goods (scv_r xs (i + 1)) hM.2.1) gL_law_X5_goods rfl dL_law_1184 rfl rfl (by decide +kernel) ⟨(Nat.le_of_ble_eq_true rfl), (Nat.le_of_ble_eq_true rfl)⟩ rfl (Nat.le_of_ble_eq_true rfl) ⟨by omega, by omega⟩ rfl (fun v S2 hr => ?_)
  obtain ⟨F1, F2, F3, F4, F5⟩ : Fnl S S2 r v := fin_goods h hw hM hr
  refine m_istore hC dL_law_1187 (fun z9 => [(6, .int (z32 z9)), (5, .int (z32 r)), (0, .ref b), (1, .ref (g.2.2 0)), (2, .ref (g.2.2 18)), (3, .ref (g.2.2 32)), (4, .int (z32 i))]) (by decide) (fun _ => rfl) (fun y6 hy6 => ?_)
  replace hy6 := hy6.symm
  subst hy6
  refine m_aload_n hC dL_law_1189 4 rfl ?_
  refine m_callVi (n := 0) hC (c_X5_thrown) gL_law_X5_thrown rfl dL_law_1190 rfl rfl (by decide +kernel) ⟨(Nat.le_of_ble_eq_true rfl), (Nat.le_of_ble_eq_true rfl)⟩ rfl (Nat.le_of_ble_eq_true rfl) ⟨by omega, by omega⟩ rfl ?_
  refine m_iload hC dL_law_1193 1 rfl ?_
  refine m_icmp_eq (tgt := 1200) hC dL_law_1195 (by decide) (by omega) (by omega) (fun c_1195 => ?_) (fun c_1195 => absurd F2 c_1195)
  refine m_iload hC dL_law_1200 1 rfl ?_
  refine m_if_ne (tgt := 1217) hC dL_law_1202 (by decide) (by omega) (fun c_1202 => ?_) (fun c_1202 => ?_)
  · refine m_goto (tgt := 1364) hC dL_law_1217 (by decide) ?_
    refine m_locals [2, 3, 4, 5, 6] rfl ?_
    exact kk S2 k1 F1 F5 hk1
  · have hr0 : r = 0 := Decidable.of_not_not c_1202
    obtain ⟨F6, F7⟩ := F4 hr0
    refine m_aload_n hC dL_law_1205 5 rfl ?_
    refine m_iconst (v := 0) hC dL_law_1206 (by decide) ?_
    refine m_laload (o := 32) (n := 1) hC rfl dL_law_1207 (by omega) (by decide) (by decide) ?_
    refine m_iload hC dL_law_1208 0 rfl ?_
    refine m_i2l hC dL_law_1210 F7 ?_
    refine m_lcmp0 hC dL_law_1211 (by omega) ?_
    refine m_if_eq (tgt := 1217) hC dL_law_1212 (by decide) (by omega) (fun _ => ?_) (fun c_1212 => absurd rfl c_1212)
    refine m_goto (tgt := 1364) hC dL_law_1217 (by decide) ?_
    refine m_locals [2, 3, 4, 5, 6] rfl ?_
    exact kk S2 k1 F1 F5 hk1
set_option maxHeartbeats 4000000 in
set_option maxRecDepth 100000 in
theorem law_isIdle {C : mX} {g : mG} {b L : Nat} {xs : Nat → Int32} {i : Int} {S : Mem} {k : Nat × Nat} (hC : mCtx C RL cL_law 7 wsL_law room_1 g) (hX : lCtx C) (hs : sCtx C b L xs) (hi : 0 ≤ i ∧ i + 4 ≤ (L : Int)) (hL : L ≤ 2048) (h : Iv S) (ht : S 18 14 + 20 ≤ 20000) (hk : k.1 + 5 ≤ room_1.cells ∧ k.2 + 30 ≤ room_1.slots) (kk : ∀ (S2 : Mem) (k2 : Nat × Nat), Iv S2 → S2 18 14 ≤ S 18 14 + 20 → k2.1 ≤ k.1 + 5 ∧ k2.2 ≤ k.2 + 30 → MW C g 7 k2 1364 [(0, .ref b), (1, .ref (g.2.2 0)), (2, .ref (g.2.2 18)), (3, .ref (g.2.2 32)), (4, .int (z32 i))] [] S2) : MW C g 7 k 1220 [(0, .ref b), (1, .ref (g.2.2 0)), (2, .ref (g.2.2 18)), (3, .ref (g.2.2 32)), (4, .int (z32 i))] [] S := by
  have hg := Iv_rg h
  have hok := Iv_okC h
  have hfz := Iv_fzC h
  have hgu := Iv_guC h
  have hlr := Iv_lim h
  have hrw := Iv_rw8 h
  refine m_aload_n hC dL_law_1220 1 rfl ?_
  refine m_aload_n hC dL_law_1221 0 rfl ?_
  refine m_iload hC dL_law_1222 4 rfl ?_
  refine m_iconst (v := 1) hC dL_law_1224 (by decide) ?_
  refine m_iadd hC dL_law_1225 ?_
  refine m_sld hC hs dL_law_1226 (by omega) (by omega) (by omega) ?_
  refine m_aload_n hC dL_law_1227 3 rfl ?_
  refine m_callLi (n := 3) (P := WPq S (cxLim S (scv xs (i + 1))) (bI (idF S (S 8) (scv xs (i + 1)))) (trOne (cxLim S (scv xs (i + 1)))) (S)) hC hX (c_L_isIdle (scv_r xs (i + 1)) hg hok hfz (fun _ => bI_32 _)) gL_law_L_isIdle rfl dL_law_1228 (by decide +kernel) ⟨(Nat.le_of_ble_eq_true rfl), (Nat.le_of_ble_eq_true rfl)⟩ rfl (Nat.le_of_ble_eq_true rfl) ⟨(Nat.le_of_ble_eq_true rfl), (Nat.le_of_ble_eq_true rfl)⟩ hk rfl (fun r S1 k1 hw hk1 => ?_)
  have hu := up_gen (fun _ _ => rfl) hw
  have hM : Iv (mg S S1) := up_M h hu
  refine m_istore hC dL_law_1231 (fun z9 => [(5, .int (z32 z9)), (0, .ref b), (1, .ref (g.2.2 0)), (2, .ref (g.2.2 18)), (3, .ref (g.2.2 32)), (4, .int (z32 i))]) (by decide) (fun _ => rfl) (fun y5 hy5 => ?_)
  replace hy5 := hy5.symm
  subst hy5
  refine m_aload_n hC dL_law_1233 3 rfl ?_
  refine m_aload_n hC dL_law_1234 1 rfl ?_
  refine m_iload hC dL_law_1235 5 rfl ?_
  refine m_iconst (v := 1) hC dL_law_1237 (by decide) ?_
  refine m_iadd hC dL_law_1238 ?_
  refine m_sld hC hs dL_law_1239 (by omega) (by omega) (by omega) ?_
  refine m_callVix (n := 1) hC (c_X5_isIdle (scv_r xs (i + 1)) hM.2.1 (Iv_ok (S := mg S S1) hM) (Iv_okg (S := mg S S1) hM) hM.2.2.2.1.1) gL_law_X5_isIdle rfl dL_law_1240 rfl rfl (by decide +kernel) ⟨(Nat.le_of_ble_eq_true rfl), (Nat.le_of_ble_eq_true rfl)⟩ rfl (Nat.le_of_ble_eq_true rfl) ⟨by omega, by omega⟩ rfl (fun v S2 hr => ?_)
  obtain ⟨F1, F2, F3, F4, F5⟩ : Fnl S S2 r v := fin_idle h hw hM hr
  refine m_istore hC dL_law_1243 (fun z9 => [(6, .int (z32 z9)), (5, .int (z32 r)), (0, .ref b), (1, .ref (g.2.2 0)), (2, .ref (g.2.2 18)), (3, .ref (g.2.2 32)), (4, .int (z32 i))]) (by decide) (fun _ => rfl) (fun y6 hy6 => ?_)
  replace hy6 := hy6.symm
  subst hy6
  refine m_aload_n hC dL_law_1245 4 rfl ?_
  refine m_callVi (n := 0) hC (c_X5_thrown) gL_law_X5_thrown rfl dL_law_1246 rfl rfl (by decide +kernel) ⟨(Nat.le_of_ble_eq_true rfl), (Nat.le_of_ble_eq_true rfl)⟩ rfl (Nat.le_of_ble_eq_true rfl) ⟨by omega, by omega⟩ rfl ?_
  refine m_iload hC dL_law_1249 1 rfl ?_
  refine m_icmp_eq (tgt := 1256) hC dL_law_1251 (by decide) (by omega) (by omega) (fun c_1251 => ?_) (fun c_1251 => absurd F2 c_1251)
  refine m_iload hC dL_law_1256 1 rfl ?_
  refine m_if_ne (tgt := 1280) hC dL_law_1258 (by decide) (by omega) (fun c_1258 => ?_) (fun c_1258 => ?_)
  · refine m_goto (tgt := 1364) hC dL_law_1280 (by decide) ?_
    refine m_locals [2, 3, 4, 5, 6] rfl ?_
    exact kk S2 k1 F1 F5 hk1
  · have hr0 : r = 0 := Decidable.of_not_not c_1258
    obtain ⟨F6, F7⟩ := F4 hr0
    have v01 := idle_01 hr F2 hr0
    refine m_aload_n hC dL_law_1261 5 rfl ?_
    refine m_iconst (v := 0) hC dL_law_1262 (by decide) ?_
    refine m_laload (o := 32) (n := 1) hC rfl dL_law_1263 (by omega) (by decide) (by decide) ?_
    refine m_iload hC dL_law_1264 0 rfl ?_
    refine m_if_eq (tgt := 1273) hC dL_law_1266 (by decide) F7 (fun c_1266 => ?_) (fun c_1266 => ?_)
    · refine m_lconst (v := 0) hC dL_law_1273 (by decide) ?_
      refine m_lcmp0 hC dL_law_1274 (by omega) ?_
      refine m_if_eq (tgt := 1280) hC dL_law_1275 (by decide) (by omega) (fun _ => ?_) (fun c_1275 => absurd rfl c_1275)
      refine m_goto (tgt := 1364) hC dL_law_1280 (by decide) ?_
      refine m_locals [2, 3, 4, 5, 6] rfl ?_
      exact kk S2 k1 F1 F5 hk1
    · refine m_lconst (v := 1) hC dL_law_1269 (by decide) ?_
      refine m_goto (tgt := 1274) hC dL_law_1270 (by decide) ?_
      refine m_lcmp0 hC dL_law_1274 (by omega) ?_
      refine m_if_eq (tgt := 1280) hC dL_law_1275 (by decide) (by omega) (fun _ => ?_) (fun c_1275 => absurd rfl c_1275)
      refine m_goto (tgt := 1364) hC dL_law_1280 (by decide) ?_
      refine m_locals [2, 3, 4, 5, 6] rfl ?_
      exact kk S2 k1 F1 F5 hk1
set_option maxHeartbeats 4000000 in
set_option maxRecDepth 100000 in
theorem law_ring {C : mX} {g : mG} {b L : Nat} {xs : Nat → Int32} {i : Int} {S : Mem} {k : Nat × Nat} (hC : mCtx C RL cL_law 7 wsL_law room_1 g) (hX : lCtx C) (hs : sCtx C b L xs) (hi : 0 ≤ i ∧ i + 4 ≤ (L : Int)) (hL : L ≤ 2048) (h : Iv S) (ht : S 18 14 + 20 ≤ 20000) (hk : k.1 + 5 ≤ room_1.cells ∧ k.2 + 30 ≤ room_1.slots) (kk : ∀ (S2 : Mem) (k2 : Nat × Nat), Iv S2 → S2 18 14 ≤ S 18 14 + 20 → k2.1 ≤ k.1 + 5 ∧ k2.2 ≤ k.2 + 30 → MW C g 7 k2 1364 [(0, .ref b), (1, .ref (g.2.2 0)), (2, .ref (g.2.2 18)), (3, .ref (g.2.2 32)), (4, .int (z32 i))] [] S2) : MW C g 7 k 1296 [(0, .ref b), (1, .ref (g.2.2 0)), (2, .ref (g.2.2 18)), (3, .ref (g.2.2 32)), (4, .int (z32 i))] [] S := by
  have hg := Iv_rg h
  have hok := Iv_okC h
  have hfz := Iv_fzC h
  have hgu := Iv_guC h
  have hlr := Iv_lim h
  have hrw := Iv_rw8 h
  refine m_aload_n hC dL_law_1296 1 rfl ?_
  refine m_aload_n hC dL_law_1297 0 rfl ?_
  refine m_iload hC dL_law_1298 4 rfl ?_
  refine m_iconst (v := 1) hC dL_law_1300 (by decide) ?_
  refine m_iadd hC dL_law_1301 ?_
  refine m_sld hC hs dL_law_1302 (by omega) (by omega) (by omega) ?_
  refine m_aload_n hC dL_law_1303 0 rfl ?_
  refine m_iload hC dL_law_1304 4 rfl ?_
  refine m_iconst (v := 2) hC dL_law_1306 (by decide) ?_
  refine m_iadd hC dL_law_1307 ?_
  refine m_sld hC hs dL_law_1308 (by omega) (by omega) (by omega) ?_
  refine m_aload_n hC dL_law_1309 3 rfl ?_
  refine m_callLi (n := 4) (P := WPq S (cxRing S (scv xs (i + 1)) (scv xs (i + 2))) (tg 57 7 (S 17) (scv xs (i + 1)) (scv xs (i + 2))) (tr12 (cxRing S (scv xs (i + 1)) (scv xs (i + 2)))) (S)) hC hX (c_L_ring (scv_r xs (i + 1)) (scv_r xs (i + 2)) hg (hv_15 h) (hv_ring h)) gL_law_L_ring rfl dL_law_1310 (by decide +kernel) ⟨(Nat.le_of_ble_eq_true rfl), (Nat.le_of_ble_eq_true rfl)⟩ rfl (Nat.le_of_ble_eq_true rfl) ⟨(Nat.le_of_ble_eq_true rfl), (Nat.le_of_ble_eq_true rfl)⟩ hk rfl (fun r S1 k1 hw hk1 => ?_)
  have hu := up_gen (fun _ _ => rfl) hw
  have hM : Iv (mg S S1) := up_M h hu
  refine m_istore hC dL_law_1313 (fun z9 => [(5, .int (z32 z9)), (0, .ref b), (1, .ref (g.2.2 0)), (2, .ref (g.2.2 18)), (3, .ref (g.2.2 32)), (4, .int (z32 i))]) (by decide) (fun _ => rfl) (fun y5 hy5 => ?_)
  replace hy5 := hy5.symm
  subst hy5
  refine m_aload_n hC dL_law_1315 3 rfl ?_
  refine m_aload_n hC dL_law_1316 1 rfl ?_
  refine m_iload hC dL_law_1317 5 rfl ?_
  refine m_iconst (v := 1) hC dL_law_1319 (by decide) ?_
  refine m_iadd hC dL_law_1320 ?_
  refine m_sld hC hs dL_law_1321 (by omega) (by omega) (by omega) ?_
  refine m_aload_n hC dL_law_1322 1 rfl ?_
  refine m_iload hC dL_law_1323 5 rfl ?_
  refine m_iconst (v := 2) hC dL_law_1325 (by decide) ?_
  refine m_iadd hC dL_law_1326 ?_
  refine m_sld hC hs dL_law_1327 (by omega) (by omega) (by omega) ?_
  refine m_callVix (n := 2) hC (c_X5_ring (scv_r xs (i + 1)) (scv_r xs (i + 2)) hM.2.1) gL_law_X5_ring rfl dL_law_1328 rfl rfl (by decide +kernel) ⟨(Nat.le_of_ble_eq_true rfl), (Nat.le_of_ble_eq_true rfl)⟩ rfl (Nat.le_of_ble_eq_true rfl) ⟨by omega, by omega⟩ rfl (fun v S2 hr => ?_)
  obtain ⟨F1, F2, F3, F4, F5⟩ : Fnl S S2 r v := fin_ring h hw hM hr
  refine m_istore hC dL_law_1331 (fun z9 => [(6, .int (z32 z9)), (5, .int (z32 r)), (0, .ref b), (1, .ref (g.2.2 0)), (2, .ref (g.2.2 18)), (3, .ref (g.2.2 32)), (4, .int (z32 i))]) (by decide) (fun _ => rfl) (fun y6 hy6 => ?_)
  replace hy6 := hy6.symm
  subst hy6
  refine m_aload_n hC dL_law_1333 4 rfl ?_
  refine m_callVi (n := 0) hC (c_X5_thrown) gL_law_X5_thrown rfl dL_law_1334 rfl rfl (by decide +kernel) ⟨(Nat.le_of_ble_eq_true rfl), (Nat.le_of_ble_eq_true rfl)⟩ rfl (Nat.le_of_ble_eq_true rfl) ⟨by omega, by omega⟩ rfl ?_
  refine m_iload hC dL_law_1337 1 rfl ?_
  refine m_icmp_eq (tgt := 1344) hC dL_law_1339 (by decide) (by omega) (by omega) (fun c_1339 => ?_) (fun c_1339 => absurd F2 c_1339)
  refine m_iload hC dL_law_1344 1 rfl ?_
  refine m_if_ne (tgt := 1361) hC dL_law_1346 (by decide) (by omega) (fun c_1346 => ?_) (fun c_1346 => ?_)
  · refine m_goto (tgt := 1364) hC dL_law_1361 (by decide) ?_
    refine m_locals [2, 3, 4, 5, 6] rfl ?_
    exact kk S2 k1 F1 F5 hk1
  · have hr0 : r = 0 := Decidable.of_not_not c_1346
    obtain ⟨F6, F7⟩ := F4 hr0
    refine m_aload_n hC dL_law_1349 5 rfl ?_
    refine m_iconst (v := 0) hC dL_law_1350 (by decide) ?_
    refine m_laload (o := 32) (n := 1) hC rfl dL_law_1351 (by omega) (by decide) (by decide) ?_
    refine m_iload hC dL_law_1352 0 rfl ?_
    refine m_i2l hC dL_law_1354 F7 ?_
    refine m_lcmp0 hC dL_law_1355 (by omega) ?_
    refine m_if_eq (tgt := 1361) hC dL_law_1356 (by decide) (by omega) (fun _ => ?_) (fun c_1356 => absurd rfl c_1356)
    refine m_goto (tgt := 1364) hC dL_law_1361 (by decide) ?_
    refine m_locals [2, 3, 4, 5, 6] rfl ?_
    exact kk S2 k1 F1 F5 hk1
set_option maxHeartbeats 4000000 in
set_option maxRecDepth 100000 in
theorem law_rings {C : mX} {g : mG} {b L : Nat} {xs : Nat → Int32} {i : Int} {S : Mem} {k : Nat × Nat} (hC : mCtx C RL cL_law 7 wsL_law room_1 g) (hX : lCtx C) (hs : sCtx C b L xs) (hi : 0 ≤ i ∧ i + 4 ≤ (L : Int)) (hL : L ≤ 2048) (h : Iv S) (ht : S 18 14 + 20 ≤ 20000) (hk : k.1 + 5 ≤ room_1.cells ∧ k.2 + 30 ≤ room_1.slots) (kk : ∀ (S2 : Mem) (k2 : Nat × Nat), Iv S2 → S2 18 14 ≤ S 18 14 + 20 → k2.1 ≤ k.1 + 5 ∧ k2.2 ≤ k.2 + 30 → MW C g 7 k2 1364 [(0, .ref b), (1, .ref (g.2.2 0)), (2, .ref (g.2.2 18)), (3, .ref (g.2.2 32)), (4, .int (z32 i))] [] S2) : MW C g 7 k 1283 [(0, .ref b), (1, .ref (g.2.2 0)), (2, .ref (g.2.2 18)), (3, .ref (g.2.2 32)), (4, .int (z32 i))] [] S := by
  have e15 := h.1.2.2.2.2.2.2.2.1
  have g16 := h.2.1.2.2.2.2.1
  refine m_aload_n hC dL_law_1283 1 rfl ?_
  refine m_callVi (n := 0) hC (c_X4_rings) gL_law_X4_rings rfl dL_law_1284 rfl rfl (by decide +kernel) ⟨(Nat.le_of_ble_eq_true rfl), (Nat.le_of_ble_eq_true rfl)⟩ rfl (Nat.le_of_ble_eq_true rfl) ⟨by omega, by omega⟩ rfl ?_
  refine m_aload_n hC dL_law_1287 2 rfl ?_
  refine m_callVi (n := 0) hC (c_X5_rings h.2.1) gL_law_X5_rings rfl dL_law_1288 rfl rfl (by decide +kernel) ⟨(Nat.le_of_ble_eq_true rfl), (Nat.le_of_ble_eq_true rfl)⟩ rfl (Nat.le_of_ble_eq_true rfl) ⟨by omega, by omega⟩ rfl ?_
  refine m_icmp_eq (tgt := 1364) hC dL_law_1291 (by decide) (by omega) (by omega) (fun _ => ?_) (fun c_1291 => absurd e15 c_1291)
  exact kk (thr S 0) k (Iv_thr 0 h) (by rw [(thr_facts S 0).2.1 14 (by decide)]; omega) ⟨by omega, by omega⟩
