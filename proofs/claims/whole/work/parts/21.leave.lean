/-! ===== the class: leaving, limits, fees ===== -/
theorem m3_step {S : Mem} (s c g : Int) (x : Fn × Fn × Fn) : mput (mput (mput (m3 S x) 12 (adF (m3 S x 12) g s (-(mn (x.1 (ix s c)) (x.2.1 (ix g s)))))) 14 (adF (mput (m3 S x) 12 (adF (m3 S x 12) g s (-(mn (x.1 (ix s c)) (x.2.1 (ix g s))))) 14) g s (mn (x.1 (ix s c)) (x.2.1 (ix g s))))) 8 (tkF (mput (mput (m3 S x) 12 (adF (m3 S x 12) g s (-(mn (x.1 (ix s c)) (x.2.1 (ix g s)))))) 14 (adF (mput (m3 S x) 12 (adF (m3 S x 12) g s (-(mn (x.1 (ix s c)) (x.2.1 (ix g s))))) 14) g s (mn (x.1 (ix s c)) (x.2.1 (ix g s)))) 8) g s c (mn (x.1 (ix s c)) (x.2.1 (ix g s)))) = m3 S (lgF s c g x) := by
  obtain ⟨a, b, d⟩ := x
  funext o
  simp only [m3, lgF, mput]
  by_cases h8 : o = 8
  · subst h8; simp
  · by_cases h12 : o = 12
    · subst h12; simp
    · by_cases h14 : o = 14
      · subst h14; simp
      · simp [h8, h12, h14]
theorem m2_b {S : Mem} (s c : Int) (x : Fn × Fn × Int) : mput (mput (m2 S (x.1, x.2.1)) 8 (adF (m2 S (x.1, x.2.1) 8) s c (-(x.1 (ix s c))))) 14 (adF (mput (m2 S (x.1, x.2.1)) 8 (adF (m2 S (x.1, x.2.1) 8) s c (-(x.1 (ix s c)))) 14) c s (x.1 (ix s c))) = m2 S ((gbF s c x).1, (gbF s c x).2.1) := by
  obtain ⟨a, b, d⟩ := x
  funext o
  simp only [m2, gbF, mput]
  by_cases h8 : o = 8
  · subst h8; simp
  · by_cases h14 : o = 14
    · subst h14; simp
    · simp [h8, h14]
theorem m2_t {S : Mem} (s c : Int) (x : Fn × Fn × Int) : mput (mput (m2 S (x.1, x.2.1)) 8 (adF (m2 S (x.1, x.2.1) 8) c s (-(x.1 (ix c s))))) 14 (adF (mput (m2 S (x.1, x.2.1)) 8 (adF (m2 S (x.1, x.2.1) 8) c s (-(x.1 (ix c s)))) 14) s c (x.1 (ix c s))) = m2 S ((gtF s c x).1, (gtF s c x).2.1) := by
  obtain ⟨a, b, d⟩ := x
  funext o
  simp only [m2, gtF, mput]
  by_cases h8 : o = 8
  · subst h8; simp
  · by_cases h14 : o = 14
    · subst h14; simp
    · simp [h8, h14]
theorem c_owed9 {g : mG} {S : Mem} {i j : Int} (hi : 0 ≤ i ∧ i < 9) (hj : 0 ≤ j ∧ j < 9) (l : Launch) : Does l yX0_owed wsX0_owed ({ frames := 2, cells := 0, slots := 0, locals := 46 } : Room) g [.ref (g.2.2 6), .int (z32 i), .int (z32 j)] S (PI (S 8 (ix i j)) S) := by
  rw [← tg_ix (f := S 8) hi hj]
  exact c_X0_owed (by omega) (by omega) l
theorem c_open9 {g : mG} {S : Mem} {i j : Int} (hi : 0 ≤ i ∧ i < 9) (hj : 0 ≤ j ∧ j < 9) (l : Launch) : Does l yX0_open wsX0_open ({ frames := 2, cells := 0, slots := 0, locals := 46 } : Room) g [.ref (g.2.2 6), .int (z32 i), .int (z32 j)] S (PI (S 8 (ix i j) - S 10 (ix i j)) S) := by
  rw [← tg_ix (f := S 8) hi hj, ← tg_ix (f := S 10) hi hj]
  exact c_X0_open (by omega) (by omega) l
theorem c_more9 {g : mG} {S : Mem} {i j v : Int} (hi : 0 ≤ i ∧ i < 9) (hj : 0 ≤ j ∧ j < 9) (l : Launch) : Does l yX0_more wsX0_more ({ frames := 3, cells := 0, slots := 0, locals := 70 } : Room) g [.ref (g.2.2 6), .int (z32 i), .int (z32 j), .int (z32 v)] S (PV (mput S 8 (adF (S 8) i j v))) := by
  have h := c_X0_more (g := g) (S := S) (i := i) (j := j) (v := v) (by omega) (by omega) l
  rw [tg_ix hi hj, ts_ix hi hj] at h
  exact h
theorem c_freeze9 {g : mG} {S : Mem} {i j v : Int} (hi : 0 ≤ i ∧ i < 9) (hj : 0 ≤ j ∧ j < 9) (l : Launch) : Does l yX0_freeze wsX0_freeze ({ frames := 3, cells := 0, slots := 0, locals := 70 } : Room) g [.ref (g.2.2 6), .int (z32 i), .int (z32 j), .int (z32 v)] S (PV (mput S 10 (adF (S 10) i j v))) := by
  have h := c_X0_freeze (g := g) (S := S) (i := i) (j := j) (v := v) (by omega) (by omega) l
  rw [tg_ix hi hj, ts_ix hi hj] at h
  exact h
theorem c_bal9 {g : mG} {S : Mem} {j : Int} (hj : 0 ≤ j ∧ j < 9) (l : Launch) : Does l yX0_balanceOf wsX0_balanceOf ({ frames := 3, cells := 0, slots := 0, locals := 69 } : Room) g [.ref (g.2.2 6), .int (z32 j)] S (PI (bl (S 8) j) S) := by
  rw [← bal_bl hj.1 hj.2]
  exact c_X0_balanceOf (by omega) l
theorem c_get12 {g : mG} {S : Mem} {i j : Int} (hi : 0 ≤ i ∧ i < 9) (hj : 0 ≤ j ∧ j < 9) (l : Launch) : Does l yX2_get wsX2_get ({ frames := 1, cells := 0, slots := 0, locals := 23 } : Room) g [.ref (g.2.2 11), .int (z32 i), .int (z32 j)] S (PI (S 12 (ix i j)) S) := by
  rw [← tg_ix (f := S 12) hi hj]
  exact c_X2_get T11 (by omega) (by omega) l
theorem c_add12 {g : mG} {S : Mem} {i j v : Int} (hi : 0 ≤ i ∧ i < 9) (hj : 0 ≤ j ∧ j < 9) (l : Launch) : Does l yX2_add wsX2_add ({ frames := 2, cells := 0, slots := 0, locals := 47 } : Room) g [.ref (g.2.2 11), .int (z32 i), .int (z32 j), .int (z32 v)] S (PV (mput S 12 (adF (S 12) i j v))) := by
  have h := c_X2_add (g := g) (S := S) T11 (r := i) (c := j) (v := v) (by omega) (by omega) l
  rw [tg_ix hi hj, ts_ix hi hj] at h
  exact h
theorem c_col12 {g : mG} {S : Mem} {j : Int} (hj : 0 ≤ j ∧ j < 9) (l : Launch) : Does l yX2_columnSum wsX2_columnSum ({ frames := 2, cells := 0, slots := 0, locals := 46 } : Room) g [.ref (g.2.2 11), .int (z32 j)] S (PI (col (S 12) j) S) := by
  have h := c_X2_columnSum (g := g) (S := S) T11 (c := j) (by omega) l
  rw [show ((9 : Int).toNat) = 9 from rfl, sI_cong (f := fun r => tg 9 9 (S 12) r j) (g := fun i => S 12 (ix i j)) (fun k a b => tg_ix ⟨a, b⟩ hj)] at h
  exact h
theorem c_row12 {g : mG} {S : Mem} {j : Int} (hj : 0 ≤ j ∧ j < 9) (l : Launch) : Does l yX2_rowSum wsX2_rowSum ({ frames := 2, cells := 0, slots := 0, locals := 46 } : Room) g [.ref (g.2.2 11), .int (z32 j)] S (PI (row (S 12) j) S) := by
  have h := c_X2_rowSum (g := g) (S := S) T11 (r := j) (by omega) l
  rw [show ((9 : Int).toNat) = 9 from rfl, sI_cong (f := fun c => tg 9 9 (S 12) j c) (g := fun i => S 12 (ix j i)) (fun k a b => tg_ix hj ⟨a, b⟩)] at h
  exact h
theorem c_get14 {g : mG} {S : Mem} {i j : Int} (hi : 0 ≤ i ∧ i < 9) (hj : 0 ≤ j ∧ j < 9) (l : Launch) : Does l yX2_get wsX2_get ({ frames := 1, cells := 0, slots := 0, locals := 23 } : Room) g [.ref (g.2.2 13), .int (z32 i), .int (z32 j)] S (PI (S 14 (ix i j)) S) := by
  rw [← tg_ix (f := S 14) hi hj]
  exact c_X2_get T13 (by omega) (by omega) l
theorem c_add14 {g : mG} {S : Mem} {i j v : Int} (hi : 0 ≤ i ∧ i < 9) (hj : 0 ≤ j ∧ j < 9) (l : Launch) : Does l yX2_add wsX2_add ({ frames := 2, cells := 0, slots := 0, locals := 47 } : Room) g [.ref (g.2.2 13), .int (z32 i), .int (z32 j), .int (z32 v)] S (PV (mput S 14 (adF (S 14) i j v))) := by
  have h := c_X2_add (g := g) (S := S) T13 (r := i) (c := j) (v := v) (by omega) (by omega) l
  rw [tg_ix hi hj, ts_ix hi hj] at h
  exact h
theorem c_col14 {g : mG} {S : Mem} {j : Int} (hj : 0 ≤ j ∧ j < 9) (l : Launch) : Does l yX2_columnSum wsX2_columnSum ({ frames := 2, cells := 0, slots := 0, locals := 46 } : Room) g [.ref (g.2.2 13), .int (z32 j)] S (PI (col (S 14) j) S) := by
  have h := c_X2_columnSum (g := g) (S := S) T13 (c := j) (by omega) l
  rw [show ((9 : Int).toNat) = 9 from rfl, sI_cong (f := fun r => tg 9 9 (S 14) r j) (g := fun i => S 14 (ix i j)) (fun k a b => tg_ix ⟨a, b⟩ hj)] at h
  exact h
theorem c_row14 {g : mG} {S : Mem} {j : Int} (hj : 0 ≤ j ∧ j < 9) (l : Launch) : Does l yX2_rowSum wsX2_rowSum ({ frames := 2, cells := 0, slots := 0, locals := 46 } : Room) g [.ref (g.2.2 13), .int (z32 j)] S (PI (row (S 14) j) S) := by
  have h := c_X2_rowSum (g := g) (S := S) T13 (r := j) (by omega) l
  rw [show ((9 : Int).toNat) = 9 from rfl, sI_cong (f := fun c => tg 9 9 (S 14) j c) (g := fun i => S 14 (ix j i)) (fun k a b => tg_ix hj ⟨a, b⟩)] at h
  exact h
theorem iX4_takeOver_4 : ∀ w ∈ wsX40, w ∈ wsX4_takeOver := by decide +kernel
theorem fX4_takeOver_28 : Cond.fieldLink RX4 28 "Mutualledger" "debts" "LMutualledger$Debts;" ∈ wsX4_takeOver := by decide +kernel
set_option maxHeartbeats 4000000 in
set_option maxRecDepth 100000 in
theorem c_X4_takeOver {g : mG} {S : Mem} {o s c m : Int} (ho : 0 ≤ o ∧ o < 9) (hs : 0 ≤ s ∧ s < 9) (hc : 0 ≤ c ∧ c < 9) (l : Launch) : Does l yX4_takeOver wsX4_takeOver ({ frames := 4, cells := 0, slots := 0, locals := 93 } : Room) g [.ref (g.2.2 0), .int (z32 o), .int (z32 s), .int (z32 c), .int (z32 m)] S (PV (mput S 8 (tkF (S 8) o s c m))) := by
  refine Does.of (cc := cX4_takeOver) (maxL := 5) (ret := none) (own := RX4) (by decide) rfl rfl (Nat.le_of_ble_eq_true rfl) ?_
  intro C hC hR
  show MW C g 5 (0, 0) 0 [(0, .ref (g.2.2 0)), (1, .int (z32 o)), (2, .int (z32 s)), (3, .int (z32 c)), (4, .int (z32 m))] [] S
  refine m_aload_n hC dX4_takeOver_0 0 rfl ?_
  refine m_getR (o := 0) (j := 2) (a := 6) (CN := RX4) (T := TX4) (N := 9) hC iX4_takeOver_4 fX4_takeOver_28 rfl dX4_takeOver_1 rfl rfl (by decide) rfl ?_
  refine m_iload_n hC dX4_takeOver_4 2 rfl ?_
  refine m_iload_n hC dX4_takeOver_5 3 rfl ?_
  refine m_iload hC dX4_takeOver_6 4 rfl ?_
  refine m_ineg hC dX4_takeOver_8 ?_
  refine m_callVv (n := 3) hC (c_more9 hs hc) gX4_takeOver_X0_more rfl dX4_takeOver_9 rfl rfl (by decide +kernel) ⟨Nat.le_of_ble_eq_true rfl, Nat.le_of_ble_eq_true rfl⟩ rfl (Nat.le_of_ble_eq_true rfl) ⟨Nat.le_of_ble_eq_true rfl, Nat.le_of_ble_eq_true rfl⟩ rfl ?_
  refine m_iload_n hC dX4_takeOver_12 1 rfl ?_
  refine m_iload_n hC dX4_takeOver_13 3 rfl ?_
  refine m_icmp_eq (tgt := 28) hC dX4_takeOver_14 (by decide) (by omega) (by omega) (fun c_14 => ?_) (fun c_14 => ?_)
  · refine m_vretv hC hR dX4_takeOver_28 ⟨Nat.le_of_ble_eq_true rfl, Nat.le_of_ble_eq_true rfl⟩ ?_
    first | (rw [tkF, if_pos (by omega)]; done) | rw [tkF, if_neg (by omega), mput_mput, mput_same]
  · refine m_aload_n hC dX4_takeOver_17 0 rfl ?_
    refine m_getR (o := 0) (j := 2) (a := 6) (CN := RX4) (T := TX4) (N := 9) hC iX4_takeOver_4 fX4_takeOver_28 rfl dX4_takeOver_18 rfl rfl (by decide) rfl ?_
    refine m_iload_n hC dX4_takeOver_21 1 rfl ?_
    refine m_iload_n hC dX4_takeOver_22 3 rfl ?_
    refine m_iload hC dX4_takeOver_23 4 rfl ?_
    refine m_callVv (n := 3) hC (c_more9 ho hc) gX4_takeOver_X0_more rfl dX4_takeOver_25 rfl rfl (by decide +kernel) ⟨Nat.le_of_ble_eq_true rfl, Nat.le_of_ble_eq_true rfl⟩ rfl (Nat.le_of_ble_eq_true rfl) ⟨Nat.le_of_ble_eq_true rfl, Nat.le_of_ble_eq_true rfl⟩ rfl ?_
    refine m_vretv hC hR dX4_takeOver_28 ⟨Nat.le_of_ble_eq_true rfl, Nat.le_of_ble_eq_true rfl⟩ ?_
    first | (rw [tkF, if_pos (by omega)]; done) | rw [tkF, if_neg (by omega), mput_mput, mput_same]
theorem iX4_passDebtsThrough_4 : ∀ w ∈ wsX40, w ∈ wsX4_passDebtsThrough := by decide +kernel
theorem fX4_passDebtsThrough_28 : Cond.fieldLink RX4 28 "Mutualledger" "debts" "LMutualledger$Debts;" ∈ wsX4_passDebtsThrough := by decide +kernel
set_option maxHeartbeats 4000000 in
set_option maxRecDepth 100000 in
theorem c_X4_passDebtsThrough {g : mG} {S : Mem} {s : Int} (hs : 0 ≤ s ∧ s < 9) (hok : OkD (S 8)) (l : Launch) : Does l yX4_passDebtsThrough wsX4_passDebtsThrough ({ frames := 5, cells := 0, slots := 0, locals := 117 } : Room) g [.ref (g.2.2 0), .int (z32 s)] S (PV (mput S 8 (psO s (S 8) 8))) := by
  refine Does.of (cc := cX4_passDebtsThrough) (maxL := 5) (ret := none) (own := RX4) (by decide) rfl rfl (Nat.le_of_ble_eq_true rfl) ?_
  intro C hC hR
  show MW C g 5 (0, 0) 0 [(0, .ref (g.2.2 0)), (1, .int (z32 s))] [] S
  refine m_iconst (v := 0) hC dX4_passDebtsThrough_0 (by decide) ?_
  refine m_istore_n hC dX4_passDebtsThrough_1 (fun z9 => [(2, .int (z32 z9)), (0, .ref (g.2.2 0)), (1, .int (z32 s))]) (by decide) (fun _ => rfl) (fun v2_1 hv2_1 => ?_)
  have L2 : ∀ (n2 : Nat) (i : Nat) (x : Int) (S1 : Mem), 8 - x < (n2 : Int) → x = (i : Int) → i ≤ 8 → S1 = mput S 8 (psO s (S 8) i) → MW C g 5 (0, 0) 2 [(0, .ref (g.2.2 0)), (1, .int (z32 s)), (2, .int (z32 x))] [] S1 := by
    intro n2
    induction n2 with
    | zero => intros; exfalso; omega
    | succ n2 ih2 =>
      intro i x S1 hm2 hx hi hS1
      have hok1 := psO_ok hs hok hi
      refine m_iload_n hC dX4_passDebtsThrough_2 2 rfl ?_
      refine m_bipush (v := 8) hC dX4_passDebtsThrough_3 (by decide) ?_
      refine m_icmp_ge (tgt := 72) hC dX4_passDebtsThrough_5 (by decide) (by omega) (by omega) (fun c_5 => ?_) (fun c_5 => ?_)
      · refine m_vretv hC hR dX4_passDebtsThrough_72 ⟨Nat.le_of_ble_eq_true rfl, Nat.le_of_ble_eq_true rfl⟩ ?_
        rw [hS1, show i = 8 by omega]
      · refine m_iconst (v := 0) hC dX4_passDebtsThrough_8 (by decide) ?_
        refine m_istore_n hC dX4_passDebtsThrough_9 (fun z9 => [(3, .int (z32 z9)), (0, .ref (g.2.2 0)), (1, .int (z32 s)), (2, .int (z32 x))]) (by decide) (fun _ => rfl) (fun v3_9 hv3_9 => ?_)
        have L10 : ∀ (n10 : Nat) (k : Nat) (y : Int) (S2 : Mem), 9 - y < (n10 : Int) → y = (k : Int) → k ≤ 9 → S2 = mput S 8 (psI s x (psO s (S 8) i) k) → MW C g 5 (0, 0) 10 [(0, .ref (g.2.2 0)), (1, .int (z32 s)), (2, .int (z32 x)), (3, .int (z32 y))] [] S2 := by
          intro n10
          induction n10 with
          | zero => intros; exfalso; omega
          | succ n10 ih10 =>
            intro k y S2 hm10 hy hk hS2
            have hok2 := psI_ok (d := x) hs (by omega) hok1 hk
            have e8 : S2 8 = psI s x (psO s (S 8) i) k := by rw [hS2, mput_same]
            rw [← e8] at hok2
            refine m_iload_n hC dX4_passDebtsThrough_10 3 rfl ?_
            refine m_bipush (v := 9) hC dX4_passDebtsThrough_11 (by decide) ?_
            refine m_icmp_ge (tgt := 66) hC dX4_passDebtsThrough_13 (by decide) (by omega) (by omega) (fun c_13 => ?_) (fun c_13 => ?_)
            · refine m_iinc hC dX4_passDebtsThrough_66 2 rfl (fun z9 => [(2, .int (z32 z9)), (0, .ref (g.2.2 0)), (1, .int (z32 s)), (3, .int (z32 y))]) (by decide) (fun _ => rfl) (fun v2_66 hv2_66 => ?_)
              refine m_goto (tgt := 2) hC dX4_passDebtsThrough_69 (by decide) ?_
              refine m_locals [1, 2, 0] rfl ?_
              exact ih2 (i + 1) v2_66 _ (by omega) (by omega) (by omega) (by rw [hS2, show k = 9 by omega, hx]; rfl)
            · refine m_aload_n hC dX4_passDebtsThrough_16 0 rfl ?_
              refine m_getR (o := 0) (j := 2) (a := 6) (CN := RX4) (T := TX4) (N := 9) hC iX4_passDebtsThrough_4 fX4_passDebtsThrough_28 rfl dX4_passDebtsThrough_17 rfl rfl (by decide) rfl ?_
              refine m_iload_n hC dX4_passDebtsThrough_20 2 rfl ?_
              refine m_iload_n hC dX4_passDebtsThrough_21 1 rfl ?_
              refine m_callVi (n := 2) hC (c_owed9 (by omega) hs) gX4_passDebtsThrough_X0_owed rfl dX4_passDebtsThrough_22 rfl rfl (by decide +kernel) ⟨Nat.le_of_ble_eq_true rfl, Nat.le_of_ble_eq_true rfl⟩ rfl (Nat.le_of_ble_eq_true rfl) ⟨Nat.le_of_ble_eq_true rfl, Nat.le_of_ble_eq_true rfl⟩ rfl ?_
              refine m_aload_n hC dX4_passDebtsThrough_25 0 rfl ?_
              refine m_getR (o := 0) (j := 2) (a := 6) (CN := RX4) (T := TX4) (N := 9) hC iX4_passDebtsThrough_4 fX4_passDebtsThrough_28 rfl dX4_passDebtsThrough_26 rfl rfl (by decide) rfl ?_
              refine m_iload_n hC dX4_passDebtsThrough_29 1 rfl ?_
              refine m_iload_n hC dX4_passDebtsThrough_30 3 rfl ?_
              refine m_callVi (n := 2) hC (c_owed9 hs (by omega)) gX4_passDebtsThrough_X0_owed rfl dX4_passDebtsThrough_31 rfl rfl (by decide +kernel) ⟨Nat.le_of_ble_eq_true rfl, Nat.le_of_ble_eq_true rfl⟩ rfl (Nat.le_of_ble_eq_true rfl) ⟨Nat.le_of_ble_eq_true rfl, Nat.le_of_ble_eq_true rfl⟩ rfl ?_
              refine m_min hC (by decide +kernel) (by decide +kernel) (by decide +kernel) (by decide +kernel) dX4_passDebtsThrough_34 (Nat.le_of_ble_eq_true rfl) (Nat.le_of_ble_eq_true rfl) ⟨Nat.le_of_ble_eq_true rfl, Nat.le_of_ble_eq_true rfl⟩ (by have h9 := hok2.1.ent (i := x) (j := s) (by omega) hs; omega) (by have h9 := hok2.1.ent (i := s) (j := y) hs (by omega); omega) ?_
              refine m_istore hC dX4_passDebtsThrough_37 (fun z9 => [(4, .int (z32 z9)), (0, .ref (g.2.2 0)), (1, .int (z32 s)), (2, .int (z32 x)), (3, .int (z32 y))]) (by decide) (fun _ => rfl) (fun v4_37 hv4_37 => ?_)
              refine m_aload_n hC dX4_passDebtsThrough_39 1 rfl ?_
              refine m_getR (o := 0) (j := 2) (a := 6) (CN := RX4) (T := TX4) (N := 9) hC iX4_passDebtsThrough_4 fX4_passDebtsThrough_28 rfl dX4_passDebtsThrough_40 rfl rfl (by decide) rfl ?_
              refine m_iload_n hC dX4_passDebtsThrough_43 3 rfl ?_
              refine m_iload_n hC dX4_passDebtsThrough_44 2 rfl ?_
              refine m_iload hC dX4_passDebtsThrough_45 0 rfl ?_
              refine m_ineg hC dX4_passDebtsThrough_47 ?_
              refine m_callVv (n := 3) hC (c_more9 (by omega) hs) gX4_passDebtsThrough_X0_more rfl dX4_passDebtsThrough_48 rfl rfl (by decide +kernel) ⟨Nat.le_of_ble_eq_true rfl, Nat.le_of_ble_eq_true rfl⟩ rfl (Nat.le_of_ble_eq_true rfl) ⟨Nat.le_of_ble_eq_true rfl, Nat.le_of_ble_eq_true rfl⟩ rfl ?_
              refine m_aload_n hC dX4_passDebtsThrough_51 1 rfl ?_
              refine m_iload_n hC dX4_passDebtsThrough_52 3 rfl ?_
              refine m_iload_n hC dX4_passDebtsThrough_53 2 rfl ?_
              refine m_iload_n hC dX4_passDebtsThrough_54 4 rfl ?_
              refine m_iload hC dX4_passDebtsThrough_55 0 rfl ?_
              refine m_callVv (n := 4) hC (c_X4_takeOver (by omega) hs (by omega)) gX4_passDebtsThrough_X4_takeOver rfl dX4_passDebtsThrough_57 rfl rfl (by decide +kernel) ⟨Nat.le_of_ble_eq_true rfl, Nat.le_of_ble_eq_true rfl⟩ rfl (Nat.le_of_ble_eq_true rfl) ⟨Nat.le_of_ble_eq_true rfl, Nat.le_of_ble_eq_true rfl⟩ rfl ?_
              refine m_iinc hC dX4_passDebtsThrough_60 4 rfl (fun z9 => [(3, .int (z32 z9)), (4, .int (z32 v4_37)), (0, .ref (g.2.2 0)), (1, .int (z32 s)), (2, .int (z32 x))]) (by decide) (fun _ => rfl) (fun v3_60 hv3_60 => ?_)
              refine m_goto (tgt := 10) hC dX4_passDebtsThrough_63 (by decide) ?_
              refine m_locals [2, 3, 4, 0] rfl ?_
              exact ih10 (k + 1) v3_60 _ (by omega) (by omega) (by omega) (by rw [hv4_37, hS2]; simp only [mput_same, mput_mput]; rw [hy]; rfl)
        refine m_locals [1, 2, 3, 0] rfl ?_
        exact L10 10 0 v3_9 _ (by omega) (by omega) (by omega) (hS1)
  refine m_locals [1, 2, 0] rfl ?_
  exact L2 9 0 v2_1 _ (by omega) (by omega) (by omega) ((mput_self S 8).symm)
theorem iX4_letGuarantorsPay_4 : ∀ w ∈ wsX40, w ∈ wsX4_letGuarantorsPay := by decide +kernel
theorem fX4_letGuarantorsPay_28 : Cond.fieldLink RX4 28 "Mutualledger" "debts" "LMutualledger$Debts;" ∈ wsX4_letGuarantorsPay := by decide +kernel
theorem fX4_letGuarantorsPay_32 : Cond.fieldLink RX4 32 "Mutualledger" "guarantees" "LMutualledger$Table;" ∈ wsX4_letGuarantorsPay := by decide +kernel
theorem fX4_letGuarantorsPay_35 : Cond.fieldLink RX4 35 "Mutualledger" "givenUp" "LMutualledger$Table;" ∈ wsX4_letGuarantorsPay := by decide +kernel
set_option maxHeartbeats 4000000 in
set_option maxRecDepth 100000 in
theorem c_X4_letGuarantorsPay {g : mG} {S : Mem} {s : Int} (hs : 0 ≤ s ∧ s < 9) (hok : lgOk (S 8, S 12, S 14)) (l : Launch) : Does l yX4_letGuarantorsPay wsX4_letGuarantorsPay ({ frames := 5, cells := 0, slots := 0, locals := 117 } : Room) g [.ref (g.2.2 0), .int (z32 s)] S (PV (m3 S (lgO s (S 8, S 12, S 14) 9))) := by
  refine Does.of (cc := cX4_letGuarantorsPay) (maxL := 5) (ret := none) (own := RX4) (by decide) rfl rfl (Nat.le_of_ble_eq_true rfl) ?_
  intro C hC hR
  show MW C g 5 (0, 0) 0 [(0, .ref (g.2.2 0)), (1, .int (z32 s))] [] S
  refine m_iconst (v := 0) hC dX4_letGuarantorsPay_0 (by decide) ?_
  refine m_istore_n hC dX4_letGuarantorsPay_1 (fun z9 => [(2, .int (z32 z9)), (0, .ref (g.2.2 0)), (1, .int (z32 s))]) (by decide) (fun _ => rfl) (fun v2_1 hv2_1 => ?_)
  have L2 : ∀ (n2 : Nat) (i : Nat) (x : Int) (S1 : Mem), 9 - x < (n2 : Int) → x = (i : Int) → i ≤ 9 → S1 = m3 S (lgO s (S 8, S 12, S 14) i) → MW C g 5 (0, 0) 2 [(0, .ref (g.2.2 0)), (1, .int (z32 s)), (2, .int (z32 x))] [] S1 := by
    intro n2
    induction n2 with
    | zero => intros; exfalso; omega
    | succ n2 ih2 =>
      intro i x S1 hm2 hx hi hS1
      have hok1 := lgO_ok hs hok hi
      refine m_iload_n hC dX4_letGuarantorsPay_2 2 rfl ?_
      refine m_bipush (v := 9) hC dX4_letGuarantorsPay_3 (by decide) ?_
      refine m_icmp_ge (tgt := 83) hC dX4_letGuarantorsPay_5 (by decide) (by omega) (by omega) (fun c_5 => ?_) (fun c_5 => ?_)
      · refine m_vretv hC hR dX4_letGuarantorsPay_83 ⟨Nat.le_of_ble_eq_true rfl, Nat.le_of_ble_eq_true rfl⟩ ?_
        rw [hS1, show i = 9 by omega]
      · refine m_iconst (v := 0) hC dX4_letGuarantorsPay_8 (by decide) ?_
        refine m_istore_n hC dX4_letGuarantorsPay_9 (fun z9 => [(3, .int (z32 z9)), (0, .ref (g.2.2 0)), (1, .int (z32 s)), (2, .int (z32 x))]) (by decide) (fun _ => rfl) (fun v3_9 hv3_9 => ?_)
        have L10 : ∀ (n10 : Nat) (k : Nat) (y : Int) (S2 : Mem), 8 - y < (n10 : Int) → y = (k : Int) → k ≤ 8 → S2 = m3 S (lgI s x (lgO s (S 8, S 12, S 14) i) k) → MW C g 5 (0, 0) 10 [(0, .ref (g.2.2 0)), (1, .int (z32 s)), (2, .int (z32 x)), (3, .int (z32 y))] [] S2 := by
          intro n10
          induction n10 with
          | zero => intros; exfalso; omega
          | succ n10 ih10 =>
            intro k y S2 hm10 hy hk hS2
            have hok2 := lgI_ok (c := x) hs (by omega) hok1 (show k ≤ 9 by omega)
            have e8 : S2 8 = (lgI s x (lgO s (S 8, S 12, S 14) i) k).1 := by rw [hS2]; rfl
            have e12 : S2 12 = (lgI s x (lgO s (S 8, S 12, S 14) i) k).2.1 := by rw [hS2]; rfl
            refine m_iload_n hC dX4_letGuarantorsPay_10 3 rfl ?_
            refine m_bipush (v := 8) hC dX4_letGuarantorsPay_11 (by decide) ?_
            refine m_icmp_ge (tgt := 77) hC dX4_letGuarantorsPay_13 (by decide) (by omega) (by omega) (fun c_13 => ?_) (fun c_13 => ?_)
            · refine m_iinc hC dX4_letGuarantorsPay_77 2 rfl (fun z9 => [(2, .int (z32 z9)), (0, .ref (g.2.2 0)), (1, .int (z32 s)), (3, .int (z32 y))]) (by decide) (fun _ => rfl) (fun v2_77 hv2_77 => ?_)
              refine m_goto (tgt := 2) hC dX4_letGuarantorsPay_80 (by decide) ?_
              refine m_locals [1, 2, 0] rfl ?_
              exact ih2 (i + 1) v2_77 _ (by omega) (by omega) (by omega) (by rw [hS2, show k = 8 by omega, hx]; rfl)
            · refine m_aload_n hC dX4_letGuarantorsPay_16 0 rfl ?_
              refine m_getR (o := 0) (j := 2) (a := 6) (CN := RX4) (T := TX4) (N := 9) hC iX4_letGuarantorsPay_4 fX4_letGuarantorsPay_28 rfl dX4_letGuarantorsPay_17 rfl rfl (by decide) rfl ?_
              refine m_iload_n hC dX4_letGuarantorsPay_20 1 rfl ?_
              refine m_iload_n hC dX4_letGuarantorsPay_21 2 rfl ?_
              refine m_callVi (n := 2) hC (c_owed9 hs (by omega)) gX4_letGuarantorsPay_X0_owed rfl dX4_letGuarantorsPay_22 rfl rfl (by decide +kernel) ⟨Nat.le_of_ble_eq_true rfl, Nat.le_of_ble_eq_true rfl⟩ rfl (Nat.le_of_ble_eq_true rfl) ⟨Nat.le_of_ble_eq_true rfl, Nat.le_of_ble_eq_true rfl⟩ rfl ?_
              refine m_aload_n hC dX4_letGuarantorsPay_25 0 rfl ?_
              refine m_getR (o := 0) (j := 3) (a := 11) (CN := RX4) (T := TX4) (N := 9) hC iX4_letGuarantorsPay_4 fX4_letGuarantorsPay_32 rfl dX4_letGuarantorsPay_26 rfl rfl (by decide) rfl ?_
              refine m_iload_n hC dX4_letGuarantorsPay_29 3 rfl ?_
              refine m_iload_n hC dX4_letGuarantorsPay_30 1 rfl ?_
              refine m_callVi (n := 2) hC (c_get12 (by omega) hs) gX4_letGuarantorsPay_X2_get rfl dX4_letGuarantorsPay_31 rfl rfl (by decide +kernel) ⟨Nat.le_of_ble_eq_true rfl, Nat.le_of_ble_eq_true rfl⟩ rfl (Nat.le_of_ble_eq_true rfl) ⟨Nat.le_of_ble_eq_true rfl, Nat.le_of_ble_eq_true rfl⟩ rfl ?_
              refine m_min hC (by decide +kernel) (by decide +kernel) (by decide +kernel) (by decide +kernel) dX4_letGuarantorsPay_34 (Nat.le_of_ble_eq_true rfl) (Nat.le_of_ble_eq_true rfl) ⟨Nat.le_of_ble_eq_true rfl, Nat.le_of_ble_eq_true rfl⟩ (by have h9 := hok2.1.1.ent (i := s) (j := x) hs (by omega); rw [e8]; omega) (by have h9 := hok2.2.1.ent (i := y) (j := s) (by omega) hs; rw [e12]; omega) ?_
              refine m_istore hC dX4_letGuarantorsPay_37 (fun z9 => [(4, .int (z32 z9)), (0, .ref (g.2.2 0)), (1, .int (z32 s)), (2, .int (z32 x)), (3, .int (z32 y))]) (by decide) (fun _ => rfl) (fun v4_37 hv4_37 => ?_)
              refine m_aload_n hC dX4_letGuarantorsPay_39 1 rfl ?_
              refine m_getR (o := 0) (j := 3) (a := 11) (CN := RX4) (T := TX4) (N := 9) hC iX4_letGuarantorsPay_4 fX4_letGuarantorsPay_32 rfl dX4_letGuarantorsPay_40 rfl rfl (by decide) rfl ?_
              refine m_iload_n hC dX4_letGuarantorsPay_43 4 rfl ?_
              refine m_iload_n hC dX4_letGuarantorsPay_44 2 rfl ?_
              refine m_iload hC dX4_letGuarantorsPay_45 0 rfl ?_
              refine m_ineg hC dX4_letGuarantorsPay_47 ?_
              refine m_callVv (n := 3) hC (c_add12 (by omega) hs) gX4_letGuarantorsPay_X2_add rfl dX4_letGuarantorsPay_48 rfl rfl (by decide +kernel) ⟨Nat.le_of_ble_eq_true rfl, Nat.le_of_ble_eq_true rfl⟩ rfl (Nat.le_of_ble_eq_true rfl) ⟨Nat.le_of_ble_eq_true rfl, Nat.le_of_ble_eq_true rfl⟩ rfl ?_
              refine m_aload_n hC dX4_letGuarantorsPay_51 1 rfl ?_
              refine m_getR (o := 0) (j := 4) (a := 13) (CN := RX4) (T := TX4) (N := 9) hC iX4_letGuarantorsPay_4 fX4_letGuarantorsPay_35 rfl dX4_letGuarantorsPay_52 rfl rfl (by decide) rfl ?_
              refine m_iload_n hC dX4_letGuarantorsPay_55 4 rfl ?_
              refine m_iload_n hC dX4_letGuarantorsPay_56 2 rfl ?_
              refine m_iload hC dX4_letGuarantorsPay_57 0 rfl ?_
              refine m_callVv (n := 3) hC (c_add14 (by omega) hs) gX4_letGuarantorsPay_X2_add rfl dX4_letGuarantorsPay_59 rfl rfl (by decide +kernel) ⟨Nat.le_of_ble_eq_true rfl, Nat.le_of_ble_eq_true rfl⟩ rfl (Nat.le_of_ble_eq_true rfl) ⟨Nat.le_of_ble_eq_true rfl, Nat.le_of_ble_eq_true rfl⟩ rfl ?_
              refine m_aload_n hC dX4_letGuarantorsPay_62 1 rfl ?_
              refine m_iload_n hC dX4_letGuarantorsPay_63 4 rfl ?_
              refine m_iload_n hC dX4_letGuarantorsPay_64 2 rfl ?_
              refine m_iload_n hC dX4_letGuarantorsPay_65 3 rfl ?_
              refine m_iload hC dX4_letGuarantorsPay_66 0 rfl ?_
              refine m_callVv (n := 4) hC (c_X4_takeOver (by omega) hs (by omega)) gX4_letGuarantorsPay_X4_takeOver rfl dX4_letGuarantorsPay_68 rfl rfl (by decide +kernel) ⟨Nat.le_of_ble_eq_true rfl, Nat.le_of_ble_eq_true rfl⟩ rfl (Nat.le_of_ble_eq_true rfl) ⟨Nat.le_of_ble_eq_true rfl, Nat.le_of_ble_eq_true rfl⟩ rfl ?_
              refine m_iinc hC dX4_letGuarantorsPay_71 4 rfl (fun z9 => [(3, .int (z32 z9)), (4, .int (z32 v4_37)), (0, .ref (g.2.2 0)), (1, .int (z32 s)), (2, .int (z32 x))]) (by decide) (fun _ => rfl) (fun v3_71 hv3_71 => ?_)
              refine m_goto (tgt := 10) hC dX4_letGuarantorsPay_74 (by decide) ?_
              refine m_locals [2, 3, 4, 0] rfl ?_
              exact ih10 (k + 1) v3_71 _ (by omega) (by omega) (by omega) (by rw [show lgI s x (lgO s (S 8, S 12, S 14) i) (k + 1) = lgF s x (k : Int) (lgI s x (lgO s (S 8, S 12, S 14) i) k) from rfl, ← hy, hv4_37, e8, e12]; subst hS2; generalize lgI s x (lgO s (S 8, S 12, S 14) i) k = u; exact m3_step s x y u)
        refine m_locals [1, 2, 3, 0] rfl ?_
        exact L10 9 0 v3_9 _ (by omega) (by omega) (by omega) (hS1)
  refine m_locals [1, 2, 0] rfl ?_
  exact L2 10 0 v2_1 _ (by omega) (by omega) (by omega) (by show S = mput (mput (mput S 8 (S 8)) 12 (S 12)) 14 (S 14); rw [mput_self, mput_self, mput_self])
theorem iX4_oweInGoodsBy_4 : ∀ w ∈ wsX40, w ∈ wsX4_oweInGoodsBy := by decide +kernel
theorem fX4_oweInGoodsBy_28 : Cond.fieldLink RX4 28 "Mutualledger" "debts" "LMutualledger$Debts;" ∈ wsX4_oweInGoodsBy := by decide +kernel
theorem fX4_oweInGoodsBy_35 : Cond.fieldLink RX4 35 "Mutualledger" "givenUp" "LMutualledger$Table;" ∈ wsX4_oweInGoodsBy := by decide +kernel
set_option maxHeartbeats 4000000 in
set_option maxRecDepth 100000 in
theorem c_X4_oweInGoodsBy {g : mG} {S : Mem} {s : Int} (hs : 0 ≤ s ∧ s < 9) (l : Launch) : Does l yX4_oweInGoodsBy wsX4_oweInGoodsBy ({ frames := 4, cells := 0, slots := 0, locals := 93 } : Room) g [.ref (g.2.2 0), .int (z32 s)] S (PI (gbI s (S 8, S 14, 0) 9).2.2 (m2 S ((gbI s (S 8, S 14, 0) 9).1, (gbI s (S 8, S 14, 0) 9).2.1))) := by
  refine Does.of (cc := cX4_oweInGoodsBy) (maxL := 5) (ret := (some .int)) (own := RX4) (by decide) rfl rfl (Nat.le_of_ble_eq_true rfl) ?_
  intro C hC hR
  show MW C g 5 (0, 0) 0 [(0, .ref (g.2.2 0)), (1, .int (z32 s))] [] S
  refine m_iconst (v := 0) hC dX4_oweInGoodsBy_0 (by decide) ?_
  refine m_istore_n hC dX4_oweInGoodsBy_1 (fun z9 => [(2, .int (z32 z9)), (0, .ref (g.2.2 0)), (1, .int (z32 s))]) (by decide) (fun _ => rfl) (fun v2_1 hv2_1 => ?_)
  refine m_iconst (v := 0) hC dX4_oweInGoodsBy_2 (by decide) ?_
  refine m_istore_n hC dX4_oweInGoodsBy_3 (fun z9 => [(3, .int (z32 z9)), (2, .int (z32 v2_1)), (0, .ref (g.2.2 0)), (1, .int (z32 s))]) (by decide) (fun _ => rfl) (fun v3_3 hv3_3 => ?_)
  have L4 : ∀ (n4 : Nat) (i : Nat) (x : Int) (sm : Int) (S1 : Mem), 9 - x < (n4 : Int) → x = (i : Int) → i ≤ 9 → sm = (gbI s (S 8, S 14, 0) i).2.2 → S1 = m2 S ((gbI s (S 8, S 14, 0) i).1, (gbI s (S 8, S 14, 0) i).2.1) → MW C g 5 (0, 0) 4 [(0, .ref (g.2.2 0)), (1, .int (z32 s)), (2, .int (z32 sm)), (3, .int (z32 x))] [] S1 := by
    intro n4
    induction n4 with
    | zero => intros; exfalso; omega
    | succ n4 ih4 =>
      intro i x sm S1 hm4 hx hi hsm hS1
      have e8 : S1 8 = (gbI s (S 8, S 14, 0) i).1 := by rw [hS1]; rfl
      refine m_iload_n hC dX4_oweInGoodsBy_4 3 rfl ?_
      refine m_bipush (v := 9) hC dX4_oweInGoodsBy_5 (by decide) ?_
      refine m_icmp_ge (tgt := 55) hC dX4_oweInGoodsBy_7 (by decide) (by omega) (by omega) (fun c_7 => ?_) (fun c_7 => ?_)
      · refine m_iload_n hC dX4_oweInGoodsBy_55 2 rfl ?_
        refine m_ireti hC hR (Or.inl rfl) dX4_oweInGoodsBy_56 ⟨Nat.le_of_ble_eq_true rfl, Nat.le_of_ble_eq_true rfl⟩ ?_ ?_
        · rw [hsm, show i = 9 by omega]
        · rw [hS1, show i = 9 by omega]
      · refine m_aload_n hC dX4_oweInGoodsBy_10 0 rfl ?_
        refine m_getR (o := 0) (j := 2) (a := 6) (CN := RX4) (T := TX4) (N := 9) hC iX4_oweInGoodsBy_4 fX4_oweInGoodsBy_28 rfl dX4_oweInGoodsBy_11 rfl rfl (by decide) rfl ?_
        refine m_iload_n hC dX4_oweInGoodsBy_14 1 rfl ?_
        refine m_iload_n hC dX4_oweInGoodsBy_15 3 rfl ?_
        refine m_callVi (n := 2) hC (c_owed9 hs (by omega)) gX4_oweInGoodsBy_X0_owed rfl dX4_oweInGoodsBy_16 rfl rfl (by decide +kernel) ⟨Nat.le_of_ble_eq_true rfl, Nat.le_of_ble_eq_true rfl⟩ rfl (Nat.le_of_ble_eq_true rfl) ⟨Nat.le_of_ble_eq_true rfl, Nat.le_of_ble_eq_true rfl⟩ rfl ?_
        refine m_istore hC dX4_oweInGoodsBy_19 (fun z9 => [(4, .int (z32 z9)), (0, .ref (g.2.2 0)), (1, .int (z32 s)), (2, .int (z32 sm)), (3, .int (z32 x))]) (by decide) (fun _ => rfl) (fun v4_19 hv4_19 => ?_)
        refine m_aload_n hC dX4_oweInGoodsBy_21 1 rfl ?_
        refine m_getR (o := 0) (j := 2) (a := 6) (CN := RX4) (T := TX4) (N := 9) hC iX4_oweInGoodsBy_4 fX4_oweInGoodsBy_28 rfl dX4_oweInGoodsBy_22 rfl rfl (by decide) rfl ?_
        refine m_iload_n hC dX4_oweInGoodsBy_25 2 rfl ?_
        refine m_iload_n hC dX4_oweInGoodsBy_26 4 rfl ?_
        refine m_iload hC dX4_oweInGoodsBy_27 0 rfl ?_
        refine m_ineg hC dX4_oweInGoodsBy_29 ?_
        refine m_callVv (n := 3) hC (c_more9 hs (by omega)) gX4_oweInGoodsBy_X0_more rfl dX4_oweInGoodsBy_30 rfl rfl (by decide +kernel) ⟨Nat.le_of_ble_eq_true rfl, Nat.le_of_ble_eq_true rfl⟩ rfl (Nat.le_of_ble_eq_true rfl) ⟨Nat.le_of_ble_eq_true rfl, Nat.le_of_ble_eq_true rfl⟩ rfl ?_
        refine m_aload_n hC dX4_oweInGoodsBy_33 1 rfl ?_
        refine m_getR (o := 0) (j := 4) (a := 13) (CN := RX4) (T := TX4) (N := 9) hC iX4_oweInGoodsBy_4 fX4_oweInGoodsBy_35 rfl dX4_oweInGoodsBy_34 rfl rfl (by decide) rfl ?_
        refine m_iload_n hC dX4_oweInGoodsBy_37 4 rfl ?_
        refine m_iload_n hC dX4_oweInGoodsBy_38 2 rfl ?_
        refine m_iload hC dX4_oweInGoodsBy_39 0 rfl ?_
        refine m_callVv (n := 3) hC (c_add14 (by omega) hs) gX4_oweInGoodsBy_X2_add rfl dX4_oweInGoodsBy_41 rfl rfl (by decide +kernel) ⟨Nat.le_of_ble_eq_true rfl, Nat.le_of_ble_eq_true rfl⟩ rfl (Nat.le_of_ble_eq_true rfl) ⟨Nat.le_of_ble_eq_true rfl, Nat.le_of_ble_eq_true rfl⟩ rfl ?_
        refine m_iload_n hC dX4_oweInGoodsBy_44 3 rfl ?_
        refine m_iload hC dX4_oweInGoodsBy_45 0 rfl ?_
        refine m_iadd hC dX4_oweInGoodsBy_47 ?_
        refine m_istore_n hC dX4_oweInGoodsBy_48 (fun z9 => [(2, .int (z32 z9)), (4, .int (z32 v4_19)), (0, .ref (g.2.2 0)), (1, .int (z32 s)), (3, .int (z32 x))]) (by decide) (fun _ => rfl) (fun v2_48 hv2_48 => ?_)
        refine m_iinc hC dX4_oweInGoodsBy_49 4 rfl (fun z9 => [(3, .int (z32 z9)), (2, .int (z32 v2_48)), (4, .int (z32 v4_19)), (0, .ref (g.2.2 0)), (1, .int (z32 s))]) (by decide) (fun _ => rfl) (fun v3_49 hv3_49 => ?_)
        refine m_goto (tgt := 4) hC dX4_oweInGoodsBy_52 (by decide) ?_
        refine m_locals [3, 4, 1, 0] rfl ?_
        exact ih4 (i + 1) v3_49 v2_48 _ (by omega) (by omega) (by omega) (by rw [show gbI s (S 8, S 14, 0) (i + 1) = gbF s (i : Int) (gbI s (S 8, S 14, 0) i) from rfl, ← hx, hv2_48, hv4_19, hsm, e8]; rfl) (by rw [show gbI s (S 8, S 14, 0) (i + 1) = gbF s (i : Int) (gbI s (S 8, S 14, 0) i) from rfl, ← hx, hv4_19, e8]; subst hS1; generalize gbI s (S 8, S 14, 0) i = u; exact m2_b s x u)
  refine m_locals [2, 3, 1, 0] rfl ?_
  exact L4 10 0 v3_3 v2_1 _ (by omega) (by omega) (by omega) (hv2_1) (by show S = mput (mput S 8 (S 8)) 14 (S 14); rw [mput_self, mput_self])
theorem iX4_oweInGoodsTo_4 : ∀ w ∈ wsX40, w ∈ wsX4_oweInGoodsTo := by decide +kernel
theorem fX4_oweInGoodsTo_28 : Cond.fieldLink RX4 28 "Mutualledger" "debts" "LMutualledger$Debts;" ∈ wsX4_oweInGoodsTo := by decide +kernel
theorem fX4_oweInGoodsTo_35 : Cond.fieldLink RX4 35 "Mutualledger" "givenUp" "LMutualledger$Table;" ∈ wsX4_oweInGoodsTo := by decide +kernel
set_option maxHeartbeats 4000000 in
set_option maxRecDepth 100000 in
theorem c_X4_oweInGoodsTo {g : mG} {S : Mem} {s : Int} (hs : 0 ≤ s ∧ s < 9) (l : Launch) : Does l yX4_oweInGoodsTo wsX4_oweInGoodsTo ({ frames := 4, cells := 0, slots := 0, locals := 93 } : Room) g [.ref (g.2.2 0), .int (z32 s)] S (PI (gtI s (S 8, S 14, 0) 8).2.2 (m2 S ((gtI s (S 8, S 14, 0) 8).1, (gtI s (S 8, S 14, 0) 8).2.1))) := by
  refine Does.of (cc := cX4_oweInGoodsTo) (maxL := 5) (ret := (some .int)) (own := RX4) (by decide) rfl rfl (Nat.le_of_ble_eq_true rfl) ?_
  intro C hC hR
  show MW C g 5 (0, 0) 0 [(0, .ref (g.2.2 0)), (1, .int (z32 s))] [] S
  refine m_iconst (v := 0) hC dX4_oweInGoodsTo_0 (by decide) ?_
  refine m_istore_n hC dX4_oweInGoodsTo_1 (fun z9 => [(2, .int (z32 z9)), (0, .ref (g.2.2 0)), (1, .int (z32 s))]) (by decide) (fun _ => rfl) (fun v2_1 hv2_1 => ?_)
  refine m_iconst (v := 0) hC dX4_oweInGoodsTo_2 (by decide) ?_
  refine m_istore_n hC dX4_oweInGoodsTo_3 (fun z9 => [(3, .int (z32 z9)), (2, .int (z32 v2_1)), (0, .ref (g.2.2 0)), (1, .int (z32 s))]) (by decide) (fun _ => rfl) (fun v3_3 hv3_3 => ?_)
  have L4 : ∀ (n4 : Nat) (i : Nat) (x : Int) (sm : Int) (S1 : Mem), 8 - x < (n4 : Int) → x = (i : Int) → i ≤ 8 → sm = (gtI s (S 8, S 14, 0) i).2.2 → S1 = m2 S ((gtI s (S 8, S 14, 0) i).1, (gtI s (S 8, S 14, 0) i).2.1) → MW C g 5 (0, 0) 4 [(0, .ref (g.2.2 0)), (1, .int (z32 s)), (2, .int (z32 sm)), (3, .int (z32 x))] [] S1 := by
    intro n4
    induction n4 with
    | zero => intros; exfalso; omega
    | succ n4 ih4 =>
      intro i x sm S1 hm4 hx hi hsm hS1
      have e8 : S1 8 = (gtI s (S 8, S 14, 0) i).1 := by rw [hS1]; rfl
      refine m_iload_n hC dX4_oweInGoodsTo_4 3 rfl ?_
      refine m_bipush (v := 8) hC dX4_oweInGoodsTo_5 (by decide) ?_
      refine m_icmp_ge (tgt := 55) hC dX4_oweInGoodsTo_7 (by decide) (by omega) (by omega) (fun c_7 => ?_) (fun c_7 => ?_)
      · refine m_iload_n hC dX4_oweInGoodsTo_55 2 rfl ?_
        refine m_ireti hC hR (Or.inl rfl) dX4_oweInGoodsTo_56 ⟨Nat.le_of_ble_eq_true rfl, Nat.le_of_ble_eq_true rfl⟩ ?_ ?_
        · rw [hsm, show i = 8 by omega]
        · rw [hS1, show i = 8 by omega]
      · refine m_aload_n hC dX4_oweInGoodsTo_10 0 rfl ?_
        refine m_getR (o := 0) (j := 2) (a := 6) (CN := RX4) (T := TX4) (N := 9) hC iX4_oweInGoodsTo_4 fX4_oweInGoodsTo_28 rfl dX4_oweInGoodsTo_11 rfl rfl (by decide) rfl ?_
        refine m_iload_n hC dX4_oweInGoodsTo_14 3 rfl ?_
        refine m_iload_n hC dX4_oweInGoodsTo_15 1 rfl ?_
        refine m_callVi (n := 2) hC (c_owed9 (by omega) hs) gX4_oweInGoodsTo_X0_owed rfl dX4_oweInGoodsTo_16 rfl rfl (by decide +kernel) ⟨Nat.le_of_ble_eq_true rfl, Nat.le_of_ble_eq_true rfl⟩ rfl (Nat.le_of_ble_eq_true rfl) ⟨Nat.le_of_ble_eq_true rfl, Nat.le_of_ble_eq_true rfl⟩ rfl ?_
        refine m_istore hC dX4_oweInGoodsTo_19 (fun z9 => [(4, .int (z32 z9)), (0, .ref (g.2.2 0)), (1, .int (z32 s)), (2, .int (z32 sm)), (3, .int (z32 x))]) (by decide) (fun _ => rfl) (fun v4_19 hv4_19 => ?_)
        refine m_aload_n hC dX4_oweInGoodsTo_21 1 rfl ?_
        refine m_getR (o := 0) (j := 2) (a := 6) (CN := RX4) (T := TX4) (N := 9) hC iX4_oweInGoodsTo_4 fX4_oweInGoodsTo_28 rfl dX4_oweInGoodsTo_22 rfl rfl (by decide) rfl ?_
        refine m_iload_n hC dX4_oweInGoodsTo_25 4 rfl ?_
        refine m_iload_n hC dX4_oweInGoodsTo_26 2 rfl ?_
        refine m_iload hC dX4_oweInGoodsTo_27 0 rfl ?_
        refine m_ineg hC dX4_oweInGoodsTo_29 ?_
        refine m_callVv (n := 3) hC (c_more9 (by omega) hs) gX4_oweInGoodsTo_X0_more rfl dX4_oweInGoodsTo_30 rfl rfl (by decide +kernel) ⟨Nat.le_of_ble_eq_true rfl, Nat.le_of_ble_eq_true rfl⟩ rfl (Nat.le_of_ble_eq_true rfl) ⟨Nat.le_of_ble_eq_true rfl, Nat.le_of_ble_eq_true rfl⟩ rfl ?_
        refine m_aload_n hC dX4_oweInGoodsTo_33 1 rfl ?_
        refine m_getR (o := 0) (j := 4) (a := 13) (CN := RX4) (T := TX4) (N := 9) hC iX4_oweInGoodsTo_4 fX4_oweInGoodsTo_35 rfl dX4_oweInGoodsTo_34 rfl rfl (by decide) rfl ?_
        refine m_iload_n hC dX4_oweInGoodsTo_37 2 rfl ?_
        refine m_iload_n hC dX4_oweInGoodsTo_38 4 rfl ?_
        refine m_iload hC dX4_oweInGoodsTo_39 0 rfl ?_
        refine m_callVv (n := 3) hC (c_add14 hs (by omega)) gX4_oweInGoodsTo_X2_add rfl dX4_oweInGoodsTo_41 rfl rfl (by decide +kernel) ⟨Nat.le_of_ble_eq_true rfl, Nat.le_of_ble_eq_true rfl⟩ rfl (Nat.le_of_ble_eq_true rfl) ⟨Nat.le_of_ble_eq_true rfl, Nat.le_of_ble_eq_true rfl⟩ rfl ?_
        refine m_iload_n hC dX4_oweInGoodsTo_44 3 rfl ?_
        refine m_iload hC dX4_oweInGoodsTo_45 0 rfl ?_
        refine m_iadd hC dX4_oweInGoodsTo_47 ?_
        refine m_istore_n hC dX4_oweInGoodsTo_48 (fun z9 => [(2, .int (z32 z9)), (4, .int (z32 v4_19)), (0, .ref (g.2.2 0)), (1, .int (z32 s)), (3, .int (z32 x))]) (by decide) (fun _ => rfl) (fun v2_48 hv2_48 => ?_)
        refine m_iinc hC dX4_oweInGoodsTo_49 4 rfl (fun z9 => [(3, .int (z32 z9)), (2, .int (z32 v2_48)), (4, .int (z32 v4_19)), (0, .ref (g.2.2 0)), (1, .int (z32 s))]) (by decide) (fun _ => rfl) (fun v3_49 hv3_49 => ?_)
        refine m_goto (tgt := 4) hC dX4_oweInGoodsTo_52 (by decide) ?_
        refine m_locals [3, 4, 1, 0] rfl ?_
        exact ih4 (i + 1) v3_49 v2_48 _ (by omega) (by omega) (by omega) (by rw [show gtI s (S 8, S 14, 0) (i + 1) = gtF s (i : Int) (gtI s (S 8, S 14, 0) i) from rfl, ← hx, hv2_48, hv4_19, hsm, e8]; rfl) (by rw [show gtI s (S 8, S 14, 0) (i + 1) = gtF s (i : Int) (gtI s (S 8, S 14, 0) i) from rfl, ← hx, hv4_19, e8]; subst hS1; generalize gtI s (S 8, S 14, 0) i = u; exact m2_t s x u)
  refine m_locals [2, 3, 1, 0] rfl ?_
  exact L4 10 0 v3_3 v2_1 _ (by omega) (by omega) (by omega) (hv2_1) (by show S = mput (mput S 8 (S 8)) 14 (S 14); rw [mput_self, mput_self])
