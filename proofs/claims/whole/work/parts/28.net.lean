/-! ===== rings: netting, by the machine ===== -/
theorem iX1_net_1 : ∀ w ∈ wsX10, w ∈ wsX1_net := by decide +kernel
theorem fX1_net_16 : Cond.fieldLink RX1 16 "Mutualledger$Rings" "rows" "LMutualledger$Table;" ∈ wsX1_net := by decide +kernel
theorem fX1_net_20 : Cond.fieldLink RX1 20 "Mutualledger$Rings" "count" "I" ∈ wsX1_net := by decide +kernel
set_option maxHeartbeats 4000000 in
set_option maxRecDepth 100000 in
theorem c_X1_net {g : mG} {S : Mem} (hc : 0 ≤ S 15 1 ∧ S 15 1 < 57) {n : Nat} (h2 : 2 ≤ n) (h5 : n ≤ 5) (hn : S 17 (rix (S 15 1) 0) = n) (hp : ∀ k : Int, 0 ≤ k → k < n → 0 ≤ pth S k ∧ pth S k < 8) (hok : Ok (S 8)) (hf : Fz (S 8) (S 10)) (l : Launch) : Does l yX1_net wsX1_net ({ frames := 4, cells := 0, slots := 0, locals := 93 } : Room) g [.ref (g.2.2 15), .ref (g.2.2 6)] S (PVx (fun S' => ntP S n S')) := by
  refine Does.of (cc := cX1_net) (maxL := 5) (ret := none) (own := RX1) (by decide) rfl rfl (Nat.le_of_ble_eq_true rfl) ?_
  intro C hC hR
  show MW C g 5 (0, 0) 0 [(0, .ref (g.2.2 15)), (1, .ref (g.2.2 6))] [] S
  have hO : ∀ i j : Int, 0 ≤ i ∧ i < 9 → 0 ≤ j ∧ j < 9 → 0 ≤ S 8 (ix i j) - S 10 (ix i j) ∧ S 8 (ix i j) - S 10 (ix i j) ≤ 200000 := fun i j hi hj => by
    have h1 := hok.ent hi hj
    have h3 := hf i j hi.1 hi.2 hj.1 hj.2
    omega
  have hp0 := hp 0 (by omega) (by omega)
  have hpl := hp ((n : Int) - 1) (by omega) (by omega)
  refine m_aload_n hC dX1_net_0 0 rfl ?_
  refine m_getR (o := 15) (j := 0) (a := 16) (CN := RX1) (T := TX1) (N := 2) hC iX1_net_1 fX1_net_16 rfl dX1_net_1 rfl rfl (by decide) rfl ?_
  refine m_aload_n hC dX1_net_4 0 rfl ?_
  refine m_getI (o := 15) (j := 1) (ji := 1) (CN := RX1) (T := TX1) (N := 2) hC iX1_net_1 fX1_net_20 rfl dX1_net_5 rfl rfl (by decide) rfl rfl ?_
  refine m_iconst (v := 0) hC dX1_net_8 (by decide) ?_
  refine m_callVi (n := 2) hC (c_get16 hc (by omega)) gX1_net_X2_get rfl dX1_net_9 rfl rfl (by decide +kernel) ⟨Nat.le_of_ble_eq_true rfl, Nat.le_of_ble_eq_true rfl⟩ rfl (Nat.le_of_ble_eq_true rfl) ⟨Nat.le_of_ble_eq_true rfl, Nat.le_of_ble_eq_true rfl⟩ rfl ?_
  refine m_istore_n hC dX1_net_12 (fun z9 => [(2, .int (z32 z9)), (0, .ref (g.2.2 15)), (1, .ref (g.2.2 6))]) (by decide) (fun _ => rfl) (fun v2_12 hv2_12 => ?_)
  refine m_aload_n hC dX1_net_13 2 rfl ?_
  refine m_aload_n hC dX1_net_14 1 rfl ?_
  refine m_iload_n hC dX1_net_15 0 rfl ?_
  refine m_iconst (v := 1) hC dX1_net_16 (by decide) ?_
  refine m_isub hC dX1_net_17 ?_
  refine m_callVi (n := 1) hC (c_X1_shopAt hc (by omega)) gX1_net_X1_shopAt rfl dX1_net_18 rfl rfl (by decide +kernel) ⟨Nat.le_of_ble_eq_true rfl, Nat.le_of_ble_eq_true rfl⟩ rfl (Nat.le_of_ble_eq_true rfl) ⟨Nat.le_of_ble_eq_true rfl, Nat.le_of_ble_eq_true rfl⟩ rfl ?_
  refine m_aload_n hC dX1_net_21 1 rfl ?_
  refine m_iconst (v := 0) hC dX1_net_22 (by decide) ?_
  refine m_callVi (n := 1) hC (c_X1_shopAt hc (by omega)) gX1_net_X1_shopAt rfl dX1_net_23 rfl rfl (by decide +kernel) ⟨Nat.le_of_ble_eq_true rfl, Nat.le_of_ble_eq_true rfl⟩ rfl (Nat.le_of_ble_eq_true rfl) ⟨Nat.le_of_ble_eq_true rfl, Nat.le_of_ble_eq_true rfl⟩ rfl ?_
  refine m_callVi (n := 2) hC (c_open9 (by rw [hv2_12, hn]; omega) (by omega)) gX1_net_X0_open rfl dX1_net_26 rfl rfl (by decide +kernel) ⟨Nat.le_of_ble_eq_true rfl, Nat.le_of_ble_eq_true rfl⟩ rfl (Nat.le_of_ble_eq_true rfl) ⟨Nat.le_of_ble_eq_true rfl, Nat.le_of_ble_eq_true rfl⟩ rfl ?_
  refine m_istore_n hC dX1_net_29 (fun z9 => [(3, .int (z32 z9)), (2, .int (z32 v2_12)), (0, .ref (g.2.2 15)), (1, .ref (g.2.2 6))]) (by decide) (fun _ => rfl) (fun v3_29 hv3_29 => ?_)
  refine m_iconst (v := 1) hC dX1_net_30 (by decide) ?_
  refine m_istore hC dX1_net_31 (fun z9 => [(4, .int (z32 z9)), (3, .int (z32 v3_29)), (2, .int (z32 v2_12)), (0, .ref (g.2.2 15)), (1, .ref (g.2.2 6))]) (by decide) (fun _ => rfl) (fun v4_31 hv4_31 => ?_)
  have L33 : ∀ (n33 : Nat) (k : Nat) (x : Int) (v : Int), v2_12 - x < (n33 : Int) → x = (k : Int) → 1 ≤ k → k ≤ n → v = lsL (opF (S 8) (S 10)) (opF (S 8) (S 10) (pth S ((n : Int) - 1)) (pth S 0)) (pl (pth S) k) → 0 ≤ v → v ≤ 200000 → MW C g 5 (0, 0) 33 [(0, .ref (g.2.2 15)), (1, .ref (g.2.2 6)), (2, .int (z32 v2_12)), (3, .int (z32 v)), (4, .int (z32 x))] [] S := by
    intro n33
    induction n33 with
    | zero => intros; exfalso; omega
    | succ n33 ih33 =>
      intro k x v hm33 hx hk1 hk2 hv hv1 hv2
      refine m_iload hC dX1_net_33 4 rfl ?_
      refine m_iload_n hC dX1_net_35 2 rfl ?_
      refine m_icmp_ge (tgt := 68) hC dX1_net_36 (by decide) (by omega) (by omega) (fun c_36 => ?_) (fun c_36 => ?_)
      · have hvR : v = lsR (S 8) (S 10) (pl (pth S) n) := by rw [lsR_pl (by omega), hv, show k = n by omega]
        refine m_aload_n hC dX1_net_68 1 rfl ?_
        refine m_aload_n hC dX1_net_69 0 rfl ?_
        refine m_iload_n hC dX1_net_70 2 rfl ?_
        refine m_iconst (v := 1) hC dX1_net_71 (by decide) ?_
        refine m_isub hC dX1_net_72 ?_
        refine m_callVi (n := 1) hC (c_X1_shopAt hc (by omega)) gX1_net_X1_shopAt rfl dX1_net_73 rfl rfl (by decide +kernel) ⟨Nat.le_of_ble_eq_true rfl, Nat.le_of_ble_eq_true rfl⟩ rfl (Nat.le_of_ble_eq_true rfl) ⟨Nat.le_of_ble_eq_true rfl, Nat.le_of_ble_eq_true rfl⟩ rfl ?_
        refine m_aload_n hC dX1_net_76 0 rfl ?_
        refine m_iconst (v := 0) hC dX1_net_77 (by decide) ?_
        refine m_callVi (n := 1) hC (c_X1_shopAt hc (by omega)) gX1_net_X1_shopAt rfl dX1_net_78 rfl rfl (by decide +kernel) ⟨Nat.le_of_ble_eq_true rfl, Nat.le_of_ble_eq_true rfl⟩ rfl (Nat.le_of_ble_eq_true rfl) ⟨Nat.le_of_ble_eq_true rfl, Nat.le_of_ble_eq_true rfl⟩ rfl ?_
        refine m_iload_n hC dX1_net_81 3 rfl ?_
        refine m_ineg hC dX1_net_82 ?_
        refine m_callVv (n := 3) hC (c_more9 (by rw [hv2_12, hn]; omega) (by omega)) gX1_net_X0_more rfl dX1_net_83 rfl rfl (by decide +kernel) ⟨Nat.le_of_ble_eq_true rfl, Nat.le_of_ble_eq_true rfl⟩ rfl (Nat.le_of_ble_eq_true rfl) ⟨Nat.le_of_ble_eq_true rfl, Nat.le_of_ble_eq_true rfl⟩ rfl ?_
        refine m_iconst (v := 1) hC dX1_net_86 (by decide) ?_
        refine m_istore hC dX1_net_87 (fun z9 => [(4, .int (z32 z9)), (0, .ref (g.2.2 15)), (1, .ref (g.2.2 6)), (2, .int (z32 v2_12)), (3, .int (z32 v))]) (by decide) (fun _ => rfl) (fun v4_87 hv4_87 => ?_)
        have L89 : ∀ (n89 : Nat) (j : Nat) (w : Int) (S1 : Mem), v2_12 - w < (n89 : Int) → w = (j : Int) → 1 ≤ j → j ≤ n → S1 = mput S 8 (ntL (adF (S 8) (pth S ((n : Int) - 1)) (pth S 0) (-(lsR (S 8) (S 10) (pl (pth S) n)))) v (pl (pth S) j)) → MW C g 5 (0, 0) 89 [(0, .ref (g.2.2 15)), (1, .ref (g.2.2 6)), (2, .int (z32 v2_12)), (3, .int (z32 v)), (4, .int (z32 w))] [] S1 := by
          intro n89
          induction n89 with
          | zero => intros; exfalso; omega
          | succ n89 ih89 =>
            intro j w S1 hm89 hw hj1 hj2 hS1
            have hc1 : 0 ≤ S1 15 1 ∧ S1 15 1 < 57 := by rw [hS1]; exact hc
            have hpth : pth S1 = pth S := by rw [hS1]; rfl
            refine m_iload hC dX1_net_89 4 rfl ?_
            refine m_iload_n hC dX1_net_91 2 rfl ?_
            refine m_icmp_ge (tgt := 121) hC dX1_net_92 (by decide) (by omega) (by omega) (fun c_92 => ?_) (fun c_92 => ?_)
            · refine m_aload_n hC dX1_net_121 0 rfl ?_
              refine m_getR (o := 15) (j := 0) (a := 16) (CN := RX1) (T := TX1) (N := 2) hC iX1_net_1 fX1_net_16 rfl dX1_net_122 rfl rfl (by decide) rfl ?_
              refine m_aload_n hC dX1_net_125 0 rfl ?_
              refine m_getI (o := 15) (j := 1) (ji := 1) (CN := RX1) (T := TX1) (N := 2) hC iX1_net_1 fX1_net_20 rfl dX1_net_126 rfl rfl (by decide) rfl rfl ?_
              refine m_iconst (v := 1) hC dX1_net_129 (by decide) ?_
              refine m_iload_n hC dX1_net_130 3 rfl ?_
              refine m_callVv (n := 3) hC (c_set16 hc1 (by omega)) gX1_net_X2_set rfl dX1_net_131 rfl rfl (by decide +kernel) ⟨Nat.le_of_ble_eq_true rfl, Nat.le_of_ble_eq_true rfl⟩ rfl (Nat.le_of_ble_eq_true rfl) ⟨Nat.le_of_ble_eq_true rfl, Nat.le_of_ble_eq_true rfl⟩ rfl ?_
              refine m_iload_n hC dX1_net_134 2 rfl ?_
              refine m_istore hC dX1_net_135 (fun z9 => [(4, .int (z32 z9)), (0, .ref (g.2.2 15)), (1, .ref (g.2.2 6)), (2, .int (z32 v2_12)), (3, .int (z32 v))]) (by decide) (fun _ => rfl) (fun v4_135 hv4_135 => ?_)
              have L137 : ∀ (n137 : Nat) (u : Int) (S2 : Mem), 5 - u < (n137 : Int) → ntI S (ntR (S 8) (S 10) (pl (pth S) n)) n v u S2 → (n : Int) ≤ u → u ≤ 5 → MW C g 5 (0, 0) 137 [(0, .ref (g.2.2 15)), (1, .ref (g.2.2 6)), (2, .int (z32 v2_12)), (3, .int (z32 v)), (4, .int (z32 u))] [] S2 := by
                intro n137
                induction n137 with
                | zero => intros; exfalso; omega
                | succ n137 ih137 =>
                  intro u S2 hm137 hI hu1 hu2
                  have hc2 : 0 ≤ S2 15 1 ∧ S2 15 1 < 57 := by rw [ntI_mem hI]; exact hc
                  refine m_iload hC dX1_net_137 4 rfl ?_
                  refine m_iconst (v := 5) hC dX1_net_139 (by decide) ?_
                  refine m_icmp_ge (tgt := 156) hC dX1_net_140 (by decide) (by omega) (by omega) (fun c_140 => ?_) (fun c_140 => ?_)
                  · refine m_vretx hC hR dX1_net_156 ⟨Nat.le_of_ble_eq_true rfl, Nat.le_of_ble_eq_true rfl⟩ ?_
                    exact ntI_end (by rw [← hvR, show (5 : Int) = u by omega]; exact hI)
                  · refine m_aload_n hC dX1_net_143 0 rfl ?_
                    refine m_iload hC dX1_net_144 4 rfl ?_
                    refine m_iconst (v := -1) hC dX1_net_146 (by decide) ?_
                    refine m_callVv (n := 2) hC (c_X1_setShopAt hc2 (by omega)) gX1_net_X1_setShopAt rfl dX1_net_147 rfl rfl (by decide +kernel) ⟨Nat.le_of_ble_eq_true rfl, Nat.le_of_ble_eq_true rfl⟩ rfl (Nat.le_of_ble_eq_true rfl) ⟨Nat.le_of_ble_eq_true rfl, Nat.le_of_ble_eq_true rfl⟩ rfl ?_
                    refine m_iinc hC dX1_net_150 4 rfl (fun z9 => [(4, .int (z32 z9)), (0, .ref (g.2.2 15)), (1, .ref (g.2.2 6)), (2, .int (z32 v2_12)), (3, .int (z32 v))]) (by decide) (fun _ => rfl) (fun v4_150 hv4_150 => ?_)
                    refine m_goto (tgt := 137) hC dX1_net_153 (by decide) ?_
                    refine m_locals [1, 2, 3, 4, 0] rfl ?_
                    exact ih137 v4_150 _ (by omega) (by rw [hv4_150]; exact ntI_step hI (by omega)) (by omega) (by omega)
              refine m_locals [1, 2, 3, 4, 0] rfl ?_
              exact L137 6 v4_135 _ (by omega) (by rw [hv4_135, hv2_12, hn, hS1, show j = n by omega, hvR, ← ntR_pl (by omega)]; exact ntI_0 hn h5) (by omega) (by omega)
            · refine m_aload_n hC dX1_net_95 1 rfl ?_
              refine m_aload_n hC dX1_net_96 0 rfl ?_
              refine m_iload hC dX1_net_97 4 rfl ?_
              refine m_iconst (v := 1) hC dX1_net_99 (by decide) ?_
              refine m_isub hC dX1_net_100 ?_
              refine m_callVi (n := 1) hC (c_X1_shopAt hc1 (by omega)) gX1_net_X1_shopAt rfl dX1_net_101 rfl rfl (by decide +kernel) ⟨Nat.le_of_ble_eq_true rfl, Nat.le_of_ble_eq_true rfl⟩ rfl (Nat.le_of_ble_eq_true rfl) ⟨Nat.le_of_ble_eq_true rfl, Nat.le_of_ble_eq_true rfl⟩ rfl ?_
              refine m_aload_n hC dX1_net_104 0 rfl ?_
              refine m_iload hC dX1_net_105 4 rfl ?_
              refine m_callVi (n := 1) hC (c_X1_shopAt hc1 (by omega)) gX1_net_X1_shopAt rfl dX1_net_107 rfl rfl (by decide +kernel) ⟨Nat.le_of_ble_eq_true rfl, Nat.le_of_ble_eq_true rfl⟩ rfl (Nat.le_of_ble_eq_true rfl) ⟨Nat.le_of_ble_eq_true rfl, Nat.le_of_ble_eq_true rfl⟩ rfl ?_
              refine m_iload_n hC dX1_net_110 3 rfl ?_
              refine m_ineg hC dX1_net_111 ?_
              rw [hpth]
              have hq1 := hp (w - 1) (by omega) (by omega)
              have hq2 := hp w (by omega) (by omega)
              refine m_callVv (n := 3) hC (c_more9 (by omega) (by omega)) gX1_net_X0_more rfl dX1_net_112 rfl rfl (by decide +kernel) ⟨Nat.le_of_ble_eq_true rfl, Nat.le_of_ble_eq_true rfl⟩ rfl (Nat.le_of_ble_eq_true rfl) ⟨Nat.le_of_ble_eq_true rfl, Nat.le_of_ble_eq_true rfl⟩ rfl ?_
              refine m_iinc hC dX1_net_115 4 rfl (fun z9 => [(4, .int (z32 z9)), (0, .ref (g.2.2 15)), (1, .ref (g.2.2 6)), (2, .int (z32 v2_12)), (3, .int (z32 v))]) (by decide) (fun _ => rfl) (fun v4_115 hv4_115 => ?_)
              refine m_goto (tgt := 89) hC dX1_net_118 (by decide) ?_
              refine m_locals [1, 2, 3, 4, 0] rfl ?_
              exact ih89 (j + 1) v4_115 _ (by omega) (by omega) (by omega) (by omega) (by rw [ntL_pl hj1, ← hw]; subst hS1; rw [mput_mput, mput_same])
        refine m_locals [1, 2, 3, 4, 0] rfl ?_
        exact L89 6 1 v4_87 _ (by omega) (by omega) (by omega) (by omega) (by rw [← hvR, hv2_12, hn]; rfl)
      · refine m_iload_n hC dX1_net_39 3 rfl ?_
        refine m_aload_n hC dX1_net_40 1 rfl ?_
        refine m_aload_n hC dX1_net_41 0 rfl ?_
        refine m_iload hC dX1_net_42 4 rfl ?_
        refine m_iconst (v := 1) hC dX1_net_44 (by decide) ?_
        refine m_isub hC dX1_net_45 ?_
        refine m_callVi (n := 1) hC (c_X1_shopAt hc (by omega)) gX1_net_X1_shopAt rfl dX1_net_46 rfl rfl (by decide +kernel) ⟨Nat.le_of_ble_eq_true rfl, Nat.le_of_ble_eq_true rfl⟩ rfl (Nat.le_of_ble_eq_true rfl) ⟨Nat.le_of_ble_eq_true rfl, Nat.le_of_ble_eq_true rfl⟩ rfl ?_
        refine m_aload_n hC dX1_net_49 0 rfl ?_
        refine m_iload hC dX1_net_50 4 rfl ?_
        refine m_callVi (n := 1) hC (c_X1_shopAt hc (by omega)) gX1_net_X1_shopAt rfl dX1_net_52 rfl rfl (by decide +kernel) ⟨Nat.le_of_ble_eq_true rfl, Nat.le_of_ble_eq_true rfl⟩ rfl (Nat.le_of_ble_eq_true rfl) ⟨Nat.le_of_ble_eq_true rfl, Nat.le_of_ble_eq_true rfl⟩ rfl ?_
        have hq1 := hp (x - 1) (by omega) (by omega)
        have hq2 := hp x (by omega) (by omega)
        have hq3 := hO (pth S (x - 1)) (pth S x) (by omega) (by omega)
        refine m_callVi (n := 2) hC (c_open9 (by omega) (by omega)) gX1_net_X0_open rfl dX1_net_55 rfl rfl (by decide +kernel) ⟨Nat.le_of_ble_eq_true rfl, Nat.le_of_ble_eq_true rfl⟩ rfl (Nat.le_of_ble_eq_true rfl) ⟨Nat.le_of_ble_eq_true rfl, Nat.le_of_ble_eq_true rfl⟩ rfl ?_
        refine m_min hC (by decide +kernel) (by decide +kernel) (by decide +kernel) (by decide +kernel) dX1_net_58 (Nat.le_of_ble_eq_true rfl) (Nat.le_of_ble_eq_true rfl) ⟨Nat.le_of_ble_eq_true rfl, Nat.le_of_ble_eq_true rfl⟩ (by omega) (by omega) ?_
        refine m_istore_n hC dX1_net_61 (fun z9 => [(3, .int (z32 z9)), (0, .ref (g.2.2 15)), (1, .ref (g.2.2 6)), (2, .int (z32 v2_12)), (4, .int (z32 x))]) (by decide) (fun _ => rfl) (fun v3_61 hv3_61 => ?_)
        refine m_iinc hC dX1_net_62 4 rfl (fun z9 => [(4, .int (z32 z9)), (3, .int (z32 v3_61)), (0, .ref (g.2.2 15)), (1, .ref (g.2.2 6)), (2, .int (z32 v2_12))]) (by decide) (fun _ => rfl) (fun v4_62 hv4_62 => ?_)
        refine m_goto (tgt := 33) hC dX1_net_65 (by decide) ?_
        refine m_locals [2, 3, 4, 1, 0] rfl ?_
        exact ih33 (k + 1) v4_62 v3_61 (by omega) (by omega) (by omega) (by omega) (by rw [lsL_pl hk1, ← hv, ← hx, hv3_61]; rfl) (by rw [hv3_61]; split <;> omega) (by rw [hv3_61]; split <;> omega)
  refine m_locals [3, 4, 2, 1, 0] rfl ?_
  exact L33 6 1 v4_31 v3_29 (by omega) (by omega) (by omega) (by omega) (by rw [hv3_29, hv2_12, hn]; rfl) (by have h9 := hO (pth S (v2_12 - 1)) (pth S 0) (by rw [hv2_12, hn]; omega) (by omega); omega) (by have h9 := hO (pth S (v2_12 - 1)) (pth S 0) (by rw [hv2_12, hn]; omega) (by omega); omega)
theorem iX1_netAll_1 : ∀ w ∈ wsX10, w ∈ wsX1_netAll := by decide +kernel
theorem fX1_netAll_20 : Cond.fieldLink RX1 20 "Mutualledger$Rings" "count" "I" ∈ wsX1_netAll := by decide +kernel
set_option maxHeartbeats 4000000 in
set_option maxRecDepth 100000 in
theorem c_X1_netAll {g : mG} {S : Mem} (hok : OkD (S 8)) (hf : Fz (S 8) (S 10)) (l : Launch) : Does l yX1_netAll wsX1_netAll ({ frames := 9, cells := 0, slots := 0, locals := 221 } : Room) g [.ref (g.2.2 15), .ref (g.2.2 6)] S (PVx (fun S' => raP S S')) := by
  refine Does.of (cc := cX1_netAll) (maxL := 3) (ret := none) (own := RX1) (by decide) rfl rfl (Nat.le_of_ble_eq_true rfl) ?_
  intro C hC hR
  show MW C g 3 (0, 0) 0 [(0, .ref (g.2.2 15)), (1, .ref (g.2.2 6))] [] S
  refine m_aload_n hC dX1_netAll_0 0 rfl ?_
  refine m_iconst (v := 0) hC dX1_netAll_1 (by decide) ?_
  refine m_putI (o := 15) (j := 1) (ji := 1) (CN := RX1) (T := TX1) (N := 2) hC iX1_netAll_1 fX1_netAll_20 rfl dX1_netAll_2 rfl rfl (by decide) rfl tyX1 tyX1_ok nmX1 rfl (by decide +kernel) rfl ?_
  refine m_iconst (v := 0) hC dX1_netAll_5 (by decide) ?_
  refine m_istore_n hC dX1_netAll_6 (fun z9 => [(2, .int (z32 z9)), (0, .ref (g.2.2 15)), (1, .ref (g.2.2 6))]) (by decide) (fun _ => rfl) (fun v2_6 hv2_6 => ?_)
  have L7 : ∀ (n7 : Nat) (i : Nat) (x : Int) (S1 : Mem), 56 - x < (n7 : Int) → x = (i : Int) → raI S i S1 → MW C g 3 (0, 0) 7 [(0, .ref (g.2.2 15)), (1, .ref (g.2.2 6)), (2, .int (z32 x))] [] S1 := by
    intro n7
    induction n7 with
    | zero => intros; exfalso; have := raI_mem ‹raI S _ _› hok hf; omega
    | succ n7 ih7 =>
      intro i x S1 hm7 hx hI
      have hm := raI_mem hI hok hf
      have hc1 : 0 ≤ S1 15 1 ∧ S1 15 1 < 57 := by omega
      refine m_iload_n hC dX1_netAll_7 2 rfl ?_
      refine m_bipush (v := 56) hC dX1_netAll_8 (by decide) ?_
      refine m_icmp_ge (tgt := 42) hC dX1_netAll_10 (by decide) (by omega) (by omega) (fun c_10 => ?_) (fun c_10 => ?_)
      · refine m_vretx hC hR dX1_netAll_42 ⟨Nat.le_of_ble_eq_true rfl, Nat.le_of_ble_eq_true rfl⟩ ?_
        first | exact raI_end hI hok hf hv9 | exact raI_full hI hok hf (by omega)
      · refine m_aload_n hC dX1_netAll_13 0 rfl ?_
        refine m_aload_n hC dX1_netAll_14 1 rfl ?_
        refine m_callVix (n := 1) hC (c_X1_find hc1 hm.1.1 hm.2.1) gX1_netAll_X1_find rfl dX1_netAll_15 rfl rfl (by decide +kernel) ⟨Nat.le_of_ble_eq_true rfl, Nat.le_of_ble_eq_true rfl⟩ rfl (Nat.le_of_ble_eq_true rfl) ⟨Nat.le_of_ble_eq_true rfl, Nat.le_of_ble_eq_true rfl⟩ rfl (fun v9 S2 hv9 => ?_)
        refine m_if_eq (tgt := 42) hC dX1_netAll_18 (by decide) (by have := fiP_v hv9; omega) (fun c_18 => ?_) (fun c_18 => ?_)
        · rw [c_18] at hv9
          refine m_vretx hC hR dX1_netAll_42 ⟨Nat.le_of_ble_eq_true rfl, Nat.le_of_ble_eq_true rfl⟩ ?_
          first | exact raI_end hI hok hf hv9 | exact raI_full hI hok hf (by omega)
        · obtain ⟨f15, f8, f10, n, n2, n5, n0, n8, hn6⟩ := raI_step hI hok hf hv9 c_18
          refine m_aload_n hC dX1_netAll_21 0 rfl ?_
          refine m_aload_n hC dX1_netAll_22 1 rfl ?_
          refine m_callVvx (n := 1) hC (c_X1_net (by rw [f15]; exact hc1) n2 n5 n0 n8 (by rw [f8]; exact hm.1.1) (by rw [f8, f10]; exact hm.2.1)) gX1_netAll_X1_net rfl dX1_netAll_23 rfl rfl (by decide +kernel) ⟨Nat.le_of_ble_eq_true rfl, Nat.le_of_ble_eq_true rfl⟩ rfl (Nat.le_of_ble_eq_true rfl) ⟨Nat.le_of_ble_eq_true rfl, Nat.le_of_ble_eq_true rfl⟩ rfl (fun S3 hv10 => ?_)
          refine m_aload_n hC dX1_netAll_26 0 rfl ?_
          refine m_dup hC dX1_netAll_27 rfl ?_
          refine m_getI (o := 15) (j := 1) (ji := 1) (CN := RX1) (T := TX1) (N := 2) hC iX1_netAll_1 fX1_netAll_20 rfl dX1_netAll_28 rfl rfl (by decide) rfl rfl ?_
          refine m_iconst (v := 1) hC dX1_netAll_31 (by decide) ?_
          refine m_iadd hC dX1_netAll_32 ?_
          refine m_putI (o := 15) (j := 1) (ji := 1) (CN := RX1) (T := TX1) (N := 2) hC iX1_netAll_1 fX1_netAll_20 rfl dX1_netAll_33 rfl rfl (by decide) rfl tyX1 tyX1_ok nmX1 rfl (by decide +kernel) rfl ?_
          refine m_iinc hC dX1_netAll_36 2 rfl (fun z9 => [(2, .int (z32 z9)), (0, .ref (g.2.2 15)), (1, .ref (g.2.2 6))]) (by decide) (fun _ => rfl) (fun v2_36 hv2_36 => ?_)
          refine m_goto (tgt := 7) hC dX1_netAll_39 (by decide) ?_
          refine m_locals [1, 2, 0] rfl ?_
          exact ih7 (i + 1) v2_36 _ (by omega) (by omega) ((hn6 S3 hv10).2)
  refine m_locals [1, 2, 0] rfl ?_
  exact L7 57 0 v2_6 _ (by omega) (by omega) (raI_0)
