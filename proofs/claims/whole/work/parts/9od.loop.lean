/-! ===== the law's loop ===== -/
set_option maxHeartbeats 4000000 in
set_option maxRecDepth 100000 in
theorem law_loop {C : mX} {g : mG} {b L : Nat} {xs : Nat → Int32} (hC : mCtx C RL cL_law 7 wsL_law room_1 g) (hX : lCtx C) (hs : sCtx C b L xs) (hL : L ≤ 2048) (hEnd : ∀ (k : Nat × Nat) (lv : List (Nat × Value)) (S : Mem), k.1 ≤ room_1.cells → k.2 ≤ room_1.slots → MW C g 7 k 1371 lv [.int (z32 1)] S) : ∀ (n j : Nat) (i : Int) (S : Mem) (k : Nat × Nat), i = 4 * (j : Int) → (L : Int) - i < n → Iv S → S 18 14 ≤ 20 * (j : Int) → k.1 ≤ 33 + 5 * j → k.2 ≤ 2959 + 30 * j → (j : Int) ≤ 512 → MW C g 7 k 23 [(0, .ref b), (1, .ref (g.2.2 0)), (2, .ref (g.2.2 18)), (3, .ref (g.2.2 32)), (4, .int (z32 i))] [] S := by
  have hc9 : room_1.cells = 601024 := rfl
  have hs9 : room_1.slots = 7293034 := rfl
  intro n
  induction n with
  | zero =>
    intro j i S k hj hm h ht hk1 hk2 hj5
    refine m_iload hC dL_law_23 4 rfl ?_
    refine m_aload_n hC dL_law_25 0 rfl ?_
    refine m_slen hC hs dL_law_26 ?_
    refine m_iconst (v := 4) hC dL_law_27 (by decide) ?_
    refine m_isub hC dL_law_28 ?_
    refine m_icmp_gt (tgt := 1370) hC dL_law_29 (by decide) (by omega) (by omega) (fun _ => ?_) (fun c_29 => ?_)
    · refine m_iconst (v := 1) hC dL_law_1370 (by decide) ?_
      exact hEnd k _ S (by omega) (by omega)
    · exfalso; omega
  | succ n ih =>
    intro j i S k hj hm h ht hk1 hk2 hj5
    refine m_iload hC dL_law_23 4 rfl ?_
    refine m_aload_n hC dL_law_25 0 rfl ?_
    refine m_slen hC hs dL_law_26 ?_
    refine m_iconst (v := 4) hC dL_law_27 (by decide) ?_
    refine m_isub hC dL_law_28 ?_
    refine m_icmp_gt (tgt := 1370) hC dL_law_29 (by decide) (by omega) (by omega) (fun _ => ?_) (fun c_29 => ?_)
    · refine m_iconst (v := 1) hC dL_law_1370 (by decide) ?_
      exact hEnd k _ S (by omega) (by omega)
    · have hi : 0 ≤ i ∧ i + 4 ≤ (L : Int) := by omega
      have hk : k.1 + 5 ≤ room_1.cells ∧ k.2 + 30 ≤ room_1.slots := by omega
      have ht2 : S 18 14 + 20 ≤ 20000 := by omega
      have tail : ∀ (S2 : Mem) (k2 : Nat × Nat), Iv S2 → S2 18 14 ≤ S 18 14 + 20 → k2.1 ≤ k.1 + 5 ∧ k2.2 ≤ k.2 + 30 → MW C g 7 k2 1364 [(0, .ref b), (1, .ref (g.2.2 0)), (2, .ref (g.2.2 18)), (3, .ref (g.2.2 32)), (4, .int (z32 i))] [] S2 := by
        intro S2 k2 h2 ht3 hk3
        refine m_iinc hC dL_law_1364 4 rfl (fun z9 => [(4, .int (z32 z9)), (0, .ref b), (1, .ref (g.2.2 0)), (2, .ref (g.2.2 18)), (3, .ref (g.2.2 32))]) (by decide) (fun _ => rfl) (fun y hy => ?_)
        refine m_goto (tgt := 23) hC dL_law_1367 (by decide) ?_
        refine m_locals [1, 2, 3, 4, 0] rfl ?_
        exact ih (j + 1) y S2 k2 (by omega) (by omega) h2 (by omega) (by omega) (by omega) (by omega)
      refine m_aload_n hC dL_law_32 0 rfl ?_
      refine m_iload hC dL_law_33 4 rfl ?_
      refine m_sld hC hs dL_law_35 (by omega) (by omega) (by omega) ?_
      refine m_bipush (v := 31) hC dL_law_36 (by decide) ?_
      refine m_and31 hC dL_law_38 (scv_r xs i) (fun v hv => ?_)
      by_cases cw_0 : v = 0
      · refine m_tableIn (tgt := 132) hC dL_law_39 (by omega) (by omega) (by omega) (by rw [cw_0]; rfl) (by decide) ?_
        exact law_join hC hX hs hi hL h ht2 hk tail
      by_cases cw_1 : v = 1
      · refine m_tableIn (tgt := 176) hC dL_law_39 (by omega) (by omega) (by omega) (by rw [cw_1]; rfl) (by decide) ?_
        exact law_leave hC hX hs hi hL h ht2 hk tail
      by_cases cw_2 : v = 2
      · refine m_tableIn (tgt := 232) hC dL_law_39 (by omega) (by omega) (by omega) (by rw [cw_2]; rfl) (by decide) ?_
        exact law_trade hC hX hs hi hL h ht2 hk tail
      by_cases cw_3 : v = 3
      · refine m_tableIn (tgt := 312) hC dL_law_39 (by omega) (by omega) (by omega) (by rw [cw_3]; rfl) (by decide) ?_
        exact law_dispute hC hX hs hi hL h ht2 hk tail
      by_cases cw_4 : v = 4
      · refine m_tableIn (tgt := 368) hC dL_law_39 (by omega) (by omega) (by omega) (by rw [cw_4]; rfl) (by decide) ?_
        exact law_settle hC hX hs hi hL h ht2 hk tail
      by_cases cw_5 : v = 5
      · refine m_tableIn (tgt := 452) hC dL_law_39 (by omega) (by omega) (by omega) (by rw [cw_5]; rfl) (by decide) ?_
        exact law_guarantee hC hX hs hi hL h ht2 hk tail
      by_cases cw_6 : v = 6
      · refine m_tableIn (tgt := 532) hC dL_law_39 (by omega) (by omega) (by omega) (by rw [cw_6]; rfl) (by decide) ?_
        exact law_revoke hC hX hs hi hL h ht2 hk tail
      by_cases cw_7 : v = 7
      · refine m_tableIn (tgt := 612) hC dL_law_39 (by omega) (by omega) (by omega) (by rw [cw_7]; rfl) (by decide) ?_
        exact law_fee hC hX hs hi hL h ht2 hk tail
      by_cases cw_8 : v = 8
      · refine m_tableIn (tgt := 668) hC dL_law_39 (by omega) (by omega) (by omega) (by rw [cw_8]; rfl) (by decide) ?_
        exact law_night hC hX hs hi hL h ht2 hk tail
      by_cases cw_9 : v = 9
      · refine m_tableIn (tgt := 724) hC dL_law_39 (by omega) (by omega) (by omega) (by rw [cw_9]; rfl) (by decide) ?_
        exact law_balance hC hX hs hi hL h ht2 hk tail
      by_cases cw_10 : v = 10
      · refine m_tableIn (tgt := 780) hC dL_law_39 (by omega) (by omega) (by omega) (by rw [cw_10]; rfl) (by decide) ?_
        exact law_balanceAnew hC hX hs hi hL h ht2 hk tail
      by_cases cw_11 : v = 11
      · refine m_tableIn (tgt := 836) hC dL_law_39 (by omega) (by omega) (by omega) (by rw [cw_11]; rfl) (by decide) ?_
        exact law_limit hC hX hs hi hL h ht2 hk tail
      by_cases cw_12 : v = 12
      · refine m_tableIn (tgt := 892) hC dL_law_39 (by omega) (by omega) (by omega) (by rw [cw_12]; rfl) (by decide) ?_
        exact law_owes hC hX hs hi hL h ht2 hk tail
      by_cases cw_13 : v = 13
      · refine m_tableIn (tgt := 960) hC dL_law_39 (by omega) (by omega) (by omega) (by rw [cw_13]; rfl) (by decide) ?_
        exact law_frozen hC hX hs hi hL h ht2 hk tail
      by_cases cw_14 : v = 14
      · refine m_tableIn (tgt := 1028) hC dL_law_39 (by omega) (by omega) (by omega) (by rw [cw_14]; rfl) (by decide) ?_
        exact law_ofTrade hC hX hs hi hL h ht2 hk tail
      by_cases cw_15 : v = 15
      · refine m_tableIn (tgt := 1096) hC dL_law_39 (by omega) (by omega) (by omega) (by rw [cw_15]; rfl) (by decide) ?_
        exact law_guaranteed hC hX hs hi hL h ht2 hk tail
      by_cases cw_16 : v = 16
      · refine m_tableIn (tgt := 1164) hC dL_law_39 (by omega) (by omega) (by omega) (by rw [cw_16]; rfl) (by decide) ?_
        exact law_goods hC hX hs hi hL h ht2 hk tail
      by_cases cw_17 : v = 17
      · refine m_tableIn (tgt := 1220) hC dL_law_39 (by omega) (by omega) (by omega) (by rw [cw_17]; rfl) (by decide) ?_
        exact law_isIdle hC hX hs hi hL h ht2 hk tail
      by_cases cw_18 : v = 18
      · refine m_tableIn (tgt := 1283) hC dL_law_39 (by omega) (by omega) (by omega) (by rw [cw_18]; rfl) (by decide) ?_
        exact law_rings hC hX hs hi hL h ht2 hk tail
      by_cases cw_19 : v = 19
      · refine m_tableIn (tgt := 1296) hC dL_law_39 (by omega) (by omega) (by omega) (by rw [cw_19]; rfl) (by decide) ?_
        exact law_ring hC hX hs hi hL h ht2 hk tail
      refine m_tableOut (tgt := 1364) hC dL_law_39 (by omega) (by omega) (by decide) ?_
      exact tail S k h (by omega) ⟨by omega, by omega⟩
