/-! ===== the reference: rings ===== -/
theorem iX5_canBegin_5 : ∀ w ∈ wsX50, w ∈ wsX5_canBegin := by decide +kernel
theorem fX5_canBegin_51 : Cond.fieldLink RX5 51 "MutualledgerModel" "row" "[I" ∈ wsX5_canBegin := by decide +kernel
set_option maxHeartbeats 4000000 in
set_option maxRecDepth 100000 in
theorem c_X5_canBegin {g : mG} {S : Mem} {p : Nat} {x : Int} (hx : x = p) (hp : p < 5) (hr : ∀ k, -1 ≤ S 31 k ∧ S 31 k ≤ 8) (hq : ∀ k : Int, 0 ≤ k → k < ((p + 1 : Nat) : Int) → 0 ≤ S 31 k ∧ S 31 k < 8) (hok : Ok (S 20)) (hf : Fz (S 20) (S 21)) (l : Launch) : Does l yX5_canBegin wsX5_canBegin ({ frames := 2, cells := 0, slots := 0, locals := 43 } : Room) g [.ref (g.2.2 18), .int (z32 x)] S (PI (bI (cbR S p)) S) := by
  refine Does.of (cc := cX5_canBegin) (maxL := 4) (ret := (some .boolean)) (own := RX5) (by decide) rfl rfl (Nat.le_of_ble_eq_true rfl) ?_
  intro C hC hR
  show MW C g 4 (0, 0) 0 [(0, .ref (g.2.2 18)), (1, .int (z32 x))] [] S
  have hO : ∀ i j : Int, 0 ≤ i ∧ i < 9 → 0 ≤ j ∧ j < 9 → 0 ≤ S 20 (ix i j) - S 21 (ix i j) ∧ S 20 (ix i j) - S 21 (ix i j) ≤ 200000 := fun i j hi hj => by
    have h1 := hok.ent hi hj
    have h3 := hf i j hi.1 hi.2 hj.1 hj.2
    omega
  have hr0 := hr 0
  have hrx := hr x
  have hqx := hq x (by omega) (by omega)
  refine m_iload_n hC dX5_canBegin_0 1 rfl ?_
  refine m_if_eq (tgt := 40) hC dX5_canBegin_1 (by decide) (by omega) (fun c_1 => ?_) (fun c_1 => ?_)
  · have hB : cb0 S x = true := by unfold cb0; rw [decide_eq_true c_1]; rfl
    refine m_iconst (v := 1) hC dX5_canBegin_40 (by decide) ?_
    refine m_goto (tgt := 45) hC dX5_canBegin_41 (by decide) ?_
    refine m_istore_n hC dX5_canBegin_45 (fun z9 => [(2, .int (z32 z9)), (0, .ref (g.2.2 18)), (1, .int (z32 x))]) (by decide) (fun _ => rfl) (fun v2_45 hv2_45 => ?_)
    refine m_iconst (v := 0) hC dX5_canBegin_46 (by decide) ?_
    refine m_istore_n hC dX5_canBegin_47 (fun z9 => [(3, .int (z32 z9)), (2, .int (z32 v2_45)), (0, .ref (g.2.2 18)), (1, .int (z32 x))]) (by decide) (fun _ => rfl) (fun v3_47 hv3_47 => ?_)
    have L48 : ∀ (n48 : Nat) (i : Nat) (y : Int) (v : Int), x - y < (n48 : Int) → y = (i : Int) → i ≤ p → v = bI (cb0 S x && !anyI (fun k => decide (S 31 k = S 31 x)) i) → MW C g 4 (0, 0) 48 [(0, .ref (g.2.2 18)), (1, .int (z32 x)), (2, .int (z32 v)), (3, .int (z32 y))] [] S := by
      intro n48
      induction n48 with
      | zero => intros; exfalso; omega
      | succ n48 ih48 =>
        intro i y v hm48 hy hi hv
        have hry := hr y
        refine m_iload_n hC dX5_canBegin_48 3 rfl ?_
        refine m_iload_n hC dX5_canBegin_49 1 rfl ?_
        refine m_icmp_ge (tgt := 84) hC dX5_canBegin_50 (by decide) (by omega) (by omega) (fun c_50 => ?_) (fun c_50 => ?_)
        · refine m_iload_n hC dX5_canBegin_84 2 rfl ?_
          refine m_ireti hC hR (Or.inr ⟨rfl, by rw [hv]; exact bI_rng _⟩) dX5_canBegin_85 ⟨Nat.le_of_ble_eq_true rfl, Nat.le_of_ble_eq_true rfl⟩ ?_ ?_
          · rw [hv, show i = p by omega, hx]; rfl
          · rfl
        · refine m_iload_n hC dX5_canBegin_53 2 rfl ?_
          refine m_if_eq (tgt := 76) hC dX5_canBegin_54 (by decide) (by rw [hv]; exact bI_32 _) (fun c_54 => ?_) (fun c_54 => ?_)
          · have bv := bI_0 (hv.symm.trans c_54)
            refine m_iconst (v := 0) hC dX5_canBegin_76 (by decide) ?_
            refine m_istore_n hC dX5_canBegin_77 (fun z9 => [(2, .int (z32 z9)), (0, .ref (g.2.2 18)), (1, .int (z32 x)), (3, .int (z32 y))]) (by decide) (fun _ => rfl) (fun v2_77 hv2_77 => ?_)
            refine m_iinc hC dX5_canBegin_78 3 rfl (fun z9 => [(3, .int (z32 z9)), (2, .int (z32 v2_77)), (0, .ref (g.2.2 18)), (1, .int (z32 x))]) (by decide) (fun _ => rfl) (fun v3_78 hv3_78 => ?_)
            refine m_goto (tgt := 48) hC dX5_canBegin_81 (by decide) ?_
            refine m_locals [2, 3, 1, 0] rfl ?_
            exact ih48 (i + 1) v3_78 v2_77 (by omega) (by omega) (by omega) (by rw [hv2_77, anyI, Bool.not_or, ← Bool.and_assoc, bv, ← hy]; first | rfl | (rw [decide_eq_true c_69]; rfl) | (rw [decide_eq_false c_69]; rfl))
          · have bv := bI_1 (fun z => c_54 (hv.trans z))
            refine m_aload_n hC dX5_canBegin_57 0 rfl ?_
            refine m_getR (o := 18) (j := 18) (a := 31) (CN := RX5) (T := TX5) (N := 19) hC iX5_canBegin_5 fX5_canBegin_51 rfl dX5_canBegin_58 rfl rfl (by decide) rfl ?_
            refine m_iload_n hC dX5_canBegin_61 3 rfl ?_
            refine m_iaload (o := 31) (n := 5) hC rfl dX5_canBegin_62 (by omega) (by omega) (by decide) ?_
            refine m_aload_n hC dX5_canBegin_63 0 rfl ?_
            refine m_getR (o := 18) (j := 18) (a := 31) (CN := RX5) (T := TX5) (N := 19) hC iX5_canBegin_5 fX5_canBegin_51 rfl dX5_canBegin_64 rfl rfl (by decide) rfl ?_
            refine m_iload_n hC dX5_canBegin_67 1 rfl ?_
            refine m_iaload (o := 31) (n := 5) hC rfl dX5_canBegin_68 (by omega) (by omega) (by decide) ?_
            refine m_icmp_eq (tgt := 76) hC dX5_canBegin_69 (by decide) (by omega) (by omega) (fun c_69 => ?_) (fun c_69 => ?_)
            · refine m_iconst (v := 0) hC dX5_canBegin_76 (by decide) ?_
              refine m_istore_n hC dX5_canBegin_77 (fun z9 => [(2, .int (z32 z9)), (0, .ref (g.2.2 18)), (1, .int (z32 x)), (3, .int (z32 y))]) (by decide) (fun _ => rfl) (fun v2_77 hv2_77 => ?_)
              refine m_iinc hC dX5_canBegin_78 3 rfl (fun z9 => [(3, .int (z32 z9)), (2, .int (z32 v2_77)), (0, .ref (g.2.2 18)), (1, .int (z32 x))]) (by decide) (fun _ => rfl) (fun v3_78 hv3_78 => ?_)
              refine m_goto (tgt := 48) hC dX5_canBegin_81 (by decide) ?_
              refine m_locals [2, 3, 1, 0] rfl ?_
              exact ih48 (i + 1) v3_78 v2_77 (by omega) (by omega) (by omega) (by rw [hv2_77, anyI, Bool.not_or, ← Bool.and_assoc, bv, ← hy]; first | rfl | (rw [decide_eq_true c_69]; rfl) | (rw [decide_eq_false c_69]; rfl))
            · refine m_iconst (v := 1) hC dX5_canBegin_72 (by decide) ?_
              refine m_goto (tgt := 77) hC dX5_canBegin_73 (by decide) ?_
              refine m_istore_n hC dX5_canBegin_77 (fun z9 => [(2, .int (z32 z9)), (0, .ref (g.2.2 18)), (1, .int (z32 x)), (3, .int (z32 y))]) (by decide) (fun _ => rfl) (fun v2_77 hv2_77 => ?_)
              refine m_iinc hC dX5_canBegin_78 3 rfl (fun z9 => [(3, .int (z32 z9)), (2, .int (z32 v2_77)), (0, .ref (g.2.2 18)), (1, .int (z32 x))]) (by decide) (fun _ => rfl) (fun v3_78 hv3_78 => ?_)
              refine m_goto (tgt := 48) hC dX5_canBegin_81 (by decide) ?_
              refine m_locals [2, 3, 1, 0] rfl ?_
              exact ih48 (i + 1) v3_78 v2_77 (by omega) (by omega) (by omega) (by rw [hv2_77, anyI, Bool.not_or, ← Bool.and_assoc, bv, ← hy]; first | rfl | (rw [decide_eq_true c_69]; rfl) | (rw [decide_eq_false c_69]; rfl))
    refine m_locals [2, 3, 1, 0] rfl ?_
    exact L48 6 0 v3_47 v2_45 (by omega) (by omega) (by omega) (by rw [hv2_45, hB]; rfl)
  · refine m_aload_n hC dX5_canBegin_4 0 rfl ?_
    refine m_getR (o := 18) (j := 18) (a := 31) (CN := RX5) (T := TX5) (N := 19) hC iX5_canBegin_5 fX5_canBegin_51 rfl dX5_canBegin_5 rfl rfl (by decide) rfl ?_
    refine m_iload_n hC dX5_canBegin_8 1 rfl ?_
    refine m_iaload (o := 31) (n := 5) hC rfl dX5_canBegin_9 (by omega) (by omega) (by decide) ?_
    refine m_aload_n hC dX5_canBegin_10 0 rfl ?_
    refine m_getR (o := 18) (j := 18) (a := 31) (CN := RX5) (T := TX5) (N := 19) hC iX5_canBegin_5 fX5_canBegin_51 rfl dX5_canBegin_11 rfl rfl (by decide) rfl ?_
    refine m_iconst (v := 0) hC dX5_canBegin_14 (by decide) ?_
    refine m_iaload (o := 31) (n := 5) hC rfl dX5_canBegin_15 (by omega) (by omega) (by decide) ?_
    refine m_icmp_le (tgt := 44) hC dX5_canBegin_16 (by decide) (by omega) (by omega) (fun c_16 => ?_) (fun c_16 => ?_)
    · have hB : cb0 S x = false := by unfold cb0; rw [decide_eq_false c_1, decide_eq_false (p := S 31 0 < S 31 x) (by omega)]; rfl
      refine m_iconst (v := 0) hC dX5_canBegin_44 (by decide) ?_
      refine m_istore_n hC dX5_canBegin_45 (fun z9 => [(2, .int (z32 z9)), (0, .ref (g.2.2 18)), (1, .int (z32 x))]) (by decide) (fun _ => rfl) (fun v2_45 hv2_45 => ?_)
      refine m_iconst (v := 0) hC dX5_canBegin_46 (by decide) ?_
      refine m_istore_n hC dX5_canBegin_47 (fun z9 => [(3, .int (z32 z9)), (2, .int (z32 v2_45)), (0, .ref (g.2.2 18)), (1, .int (z32 x))]) (by decide) (fun _ => rfl) (fun v3_47 hv3_47 => ?_)
      have L48 : ∀ (n48 : Nat) (i : Nat) (y : Int) (v : Int), x - y < (n48 : Int) → y = (i : Int) → i ≤ p → v = bI (cb0 S x && !anyI (fun k => decide (S 31 k = S 31 x)) i) → MW C g 4 (0, 0) 48 [(0, .ref (g.2.2 18)), (1, .int (z32 x)), (2, .int (z32 v)), (3, .int (z32 y))] [] S := by
        intro n48
        induction n48 with
        | zero => intros; exfalso; omega
        | succ n48 ih48 =>
          intro i y v hm48 hy hi hv
          have hry := hr y
          refine m_iload_n hC dX5_canBegin_48 3 rfl ?_
          refine m_iload_n hC dX5_canBegin_49 1 rfl ?_
          refine m_icmp_ge (tgt := 84) hC dX5_canBegin_50 (by decide) (by omega) (by omega) (fun c_50 => ?_) (fun c_50 => ?_)
          · refine m_iload_n hC dX5_canBegin_84 2 rfl ?_
            refine m_ireti hC hR (Or.inr ⟨rfl, by rw [hv]; exact bI_rng _⟩) dX5_canBegin_85 ⟨Nat.le_of_ble_eq_true rfl, Nat.le_of_ble_eq_true rfl⟩ ?_ ?_
            · rw [hv, show i = p by omega, hx]; rfl
            · rfl
          · refine m_iload_n hC dX5_canBegin_53 2 rfl ?_
            refine m_if_eq (tgt := 76) hC dX5_canBegin_54 (by decide) (by rw [hv]; exact bI_32 _) (fun c_54 => ?_) (fun c_54 => ?_)
            · have bv := bI_0 (hv.symm.trans c_54)
              refine m_iconst (v := 0) hC dX5_canBegin_76 (by decide) ?_
              refine m_istore_n hC dX5_canBegin_77 (fun z9 => [(2, .int (z32 z9)), (0, .ref (g.2.2 18)), (1, .int (z32 x)), (3, .int (z32 y))]) (by decide) (fun _ => rfl) (fun v2_77 hv2_77 => ?_)
              refine m_iinc hC dX5_canBegin_78 3 rfl (fun z9 => [(3, .int (z32 z9)), (2, .int (z32 v2_77)), (0, .ref (g.2.2 18)), (1, .int (z32 x))]) (by decide) (fun _ => rfl) (fun v3_78 hv3_78 => ?_)
              refine m_goto (tgt := 48) hC dX5_canBegin_81 (by decide) ?_
              refine m_locals [2, 3, 1, 0] rfl ?_
              exact ih48 (i + 1) v3_78 v2_77 (by omega) (by omega) (by omega) (by rw [hv2_77, anyI, Bool.not_or, ← Bool.and_assoc, bv, ← hy]; first | rfl | (rw [decide_eq_true c_69]; rfl) | (rw [decide_eq_false c_69]; rfl))
            · have bv := bI_1 (fun z => c_54 (hv.trans z))
              refine m_aload_n hC dX5_canBegin_57 0 rfl ?_
              refine m_getR (o := 18) (j := 18) (a := 31) (CN := RX5) (T := TX5) (N := 19) hC iX5_canBegin_5 fX5_canBegin_51 rfl dX5_canBegin_58 rfl rfl (by decide) rfl ?_
              refine m_iload_n hC dX5_canBegin_61 3 rfl ?_
              refine m_iaload (o := 31) (n := 5) hC rfl dX5_canBegin_62 (by omega) (by omega) (by decide) ?_
              refine m_aload_n hC dX5_canBegin_63 0 rfl ?_
              refine m_getR (o := 18) (j := 18) (a := 31) (CN := RX5) (T := TX5) (N := 19) hC iX5_canBegin_5 fX5_canBegin_51 rfl dX5_canBegin_64 rfl rfl (by decide) rfl ?_
              refine m_iload_n hC dX5_canBegin_67 1 rfl ?_
              refine m_iaload (o := 31) (n := 5) hC rfl dX5_canBegin_68 (by omega) (by omega) (by decide) ?_
              refine m_icmp_eq (tgt := 76) hC dX5_canBegin_69 (by decide) (by omega) (by omega) (fun c_69 => ?_) (fun c_69 => ?_)
              · refine m_iconst (v := 0) hC dX5_canBegin_76 (by decide) ?_
                refine m_istore_n hC dX5_canBegin_77 (fun z9 => [(2, .int (z32 z9)), (0, .ref (g.2.2 18)), (1, .int (z32 x)), (3, .int (z32 y))]) (by decide) (fun _ => rfl) (fun v2_77 hv2_77 => ?_)
                refine m_iinc hC dX5_canBegin_78 3 rfl (fun z9 => [(3, .int (z32 z9)), (2, .int (z32 v2_77)), (0, .ref (g.2.2 18)), (1, .int (z32 x))]) (by decide) (fun _ => rfl) (fun v3_78 hv3_78 => ?_)
                refine m_goto (tgt := 48) hC dX5_canBegin_81 (by decide) ?_
                refine m_locals [2, 3, 1, 0] rfl ?_
                exact ih48 (i + 1) v3_78 v2_77 (by omega) (by omega) (by omega) (by rw [hv2_77, anyI, Bool.not_or, ← Bool.and_assoc, bv, ← hy]; first | rfl | (rw [decide_eq_true c_69]; rfl) | (rw [decide_eq_false c_69]; rfl))
              · refine m_iconst (v := 1) hC dX5_canBegin_72 (by decide) ?_
                refine m_goto (tgt := 77) hC dX5_canBegin_73 (by decide) ?_
                refine m_istore_n hC dX5_canBegin_77 (fun z9 => [(2, .int (z32 z9)), (0, .ref (g.2.2 18)), (1, .int (z32 x)), (3, .int (z32 y))]) (by decide) (fun _ => rfl) (fun v2_77 hv2_77 => ?_)
                refine m_iinc hC dX5_canBegin_78 3 rfl (fun z9 => [(3, .int (z32 z9)), (2, .int (z32 v2_77)), (0, .ref (g.2.2 18)), (1, .int (z32 x))]) (by decide) (fun _ => rfl) (fun v3_78 hv3_78 => ?_)
                refine m_goto (tgt := 48) hC dX5_canBegin_81 (by decide) ?_
                refine m_locals [2, 3, 1, 0] rfl ?_
                exact ih48 (i + 1) v3_78 v2_77 (by omega) (by omega) (by omega) (by rw [hv2_77, anyI, Bool.not_or, ← Bool.and_assoc, bv, ← hy]; first | rfl | (rw [decide_eq_true c_69]; rfl) | (rw [decide_eq_false c_69]; rfl))
      refine m_locals [2, 3, 1, 0] rfl ?_
      exact L48 6 0 v3_47 v2_45 (by omega) (by omega) (by omega) (by rw [hv2_45, hB]; rfl)
    · refine m_aload_n hC dX5_canBegin_19 0 rfl ?_
      refine m_aload_n hC dX5_canBegin_20 0 rfl ?_
      refine m_getR (o := 18) (j := 18) (a := 31) (CN := RX5) (T := TX5) (N := 19) hC iX5_canBegin_5 fX5_canBegin_51 rfl dX5_canBegin_21 rfl rfl (by decide) rfl ?_
      refine m_iload_n hC dX5_canBegin_24 1 rfl ?_
      refine m_iconst (v := 1) hC dX5_canBegin_25 (by decide) ?_
      refine m_isub hC dX5_canBegin_26 ?_
      refine m_iaload (o := 31) (n := 5) hC rfl dX5_canBegin_27 (by omega) (by omega) (by decide) ?_
      refine m_aload_n hC dX5_canBegin_28 0 rfl ?_
      refine m_getR (o := 18) (j := 18) (a := 31) (CN := RX5) (T := TX5) (N := 19) hC iX5_canBegin_5 fX5_canBegin_51 rfl dX5_canBegin_29 rfl rfl (by decide) rfl ?_
      refine m_iload_n hC dX5_canBegin_32 1 rfl ?_
      refine m_iaload (o := 31) (n := 5) hC rfl dX5_canBegin_33 (by omega) (by omega) (by decide) ?_
      have hq1 := hq (x - 1) (by omega) (by omega)
      have hq3 := hO (S 31 (x - 1)) (S 31 x) (by omega) (by omega)
      refine m_callVi (n := 2) hC (c_X5_free (by omega) (by omega)) gX5_canBegin_X5_free rfl dX5_canBegin_34 rfl rfl (by decide +kernel) ⟨Nat.le_of_ble_eq_true rfl, Nat.le_of_ble_eq_true rfl⟩ rfl (Nat.le_of_ble_eq_true rfl) ⟨Nat.le_of_ble_eq_true rfl, Nat.le_of_ble_eq_true rfl⟩ rfl ?_
      refine m_if_le (tgt := 44) hC dX5_canBegin_37 (by decide) (by omega) (fun c_37 => ?_) (fun c_37 => ?_)
      · have hB : cb0 S x = false := by unfold cb0; rw [decide_eq_false c_1, show GR S (S 31 (x - 1)) (S 31 x) = false from decide_eq_false (by omega), Bool.and_false]; rfl
        refine m_iconst (v := 0) hC dX5_canBegin_44 (by decide) ?_
        refine m_istore_n hC dX5_canBegin_45 (fun z9 => [(2, .int (z32 z9)), (0, .ref (g.2.2 18)), (1, .int (z32 x))]) (by decide) (fun _ => rfl) (fun v2_45 hv2_45 => ?_)
        refine m_iconst (v := 0) hC dX5_canBegin_46 (by decide) ?_
        refine m_istore_n hC dX5_canBegin_47 (fun z9 => [(3, .int (z32 z9)), (2, .int (z32 v2_45)), (0, .ref (g.2.2 18)), (1, .int (z32 x))]) (by decide) (fun _ => rfl) (fun v3_47 hv3_47 => ?_)
        have L48 : ∀ (n48 : Nat) (i : Nat) (y : Int) (v : Int), x - y < (n48 : Int) → y = (i : Int) → i ≤ p → v = bI (cb0 S x && !anyI (fun k => decide (S 31 k = S 31 x)) i) → MW C g 4 (0, 0) 48 [(0, .ref (g.2.2 18)), (1, .int (z32 x)), (2, .int (z32 v)), (3, .int (z32 y))] [] S := by
          intro n48
          induction n48 with
          | zero => intros; exfalso; omega
          | succ n48 ih48 =>
            intro i y v hm48 hy hi hv
            have hry := hr y
            refine m_iload_n hC dX5_canBegin_48 3 rfl ?_
            refine m_iload_n hC dX5_canBegin_49 1 rfl ?_
            refine m_icmp_ge (tgt := 84) hC dX5_canBegin_50 (by decide) (by omega) (by omega) (fun c_50 => ?_) (fun c_50 => ?_)
            · refine m_iload_n hC dX5_canBegin_84 2 rfl ?_
              refine m_ireti hC hR (Or.inr ⟨rfl, by rw [hv]; exact bI_rng _⟩) dX5_canBegin_85 ⟨Nat.le_of_ble_eq_true rfl, Nat.le_of_ble_eq_true rfl⟩ ?_ ?_
              · rw [hv, show i = p by omega, hx]; rfl
              · rfl
            · refine m_iload_n hC dX5_canBegin_53 2 rfl ?_
              refine m_if_eq (tgt := 76) hC dX5_canBegin_54 (by decide) (by rw [hv]; exact bI_32 _) (fun c_54 => ?_) (fun c_54 => ?_)
              · have bv := bI_0 (hv.symm.trans c_54)
                refine m_iconst (v := 0) hC dX5_canBegin_76 (by decide) ?_
                refine m_istore_n hC dX5_canBegin_77 (fun z9 => [(2, .int (z32 z9)), (0, .ref (g.2.2 18)), (1, .int (z32 x)), (3, .int (z32 y))]) (by decide) (fun _ => rfl) (fun v2_77 hv2_77 => ?_)
                refine m_iinc hC dX5_canBegin_78 3 rfl (fun z9 => [(3, .int (z32 z9)), (2, .int (z32 v2_77)), (0, .ref (g.2.2 18)), (1, .int (z32 x))]) (by decide) (fun _ => rfl) (fun v3_78 hv3_78 => ?_)
                refine m_goto (tgt := 48) hC dX5_canBegin_81 (by decide) ?_
                refine m_locals [2, 3, 1, 0] rfl ?_
                exact ih48 (i + 1) v3_78 v2_77 (by omega) (by omega) (by omega) (by rw [hv2_77, anyI, Bool.not_or, ← Bool.and_assoc, bv, ← hy]; first | rfl | (rw [decide_eq_true c_69]; rfl) | (rw [decide_eq_false c_69]; rfl))
              · have bv := bI_1 (fun z => c_54 (hv.trans z))
                refine m_aload_n hC dX5_canBegin_57 0 rfl ?_
                refine m_getR (o := 18) (j := 18) (a := 31) (CN := RX5) (T := TX5) (N := 19) hC iX5_canBegin_5 fX5_canBegin_51 rfl dX5_canBegin_58 rfl rfl (by decide) rfl ?_
                refine m_iload_n hC dX5_canBegin_61 3 rfl ?_
                refine m_iaload (o := 31) (n := 5) hC rfl dX5_canBegin_62 (by omega) (by omega) (by decide) ?_
                refine m_aload_n hC dX5_canBegin_63 0 rfl ?_
                refine m_getR (o := 18) (j := 18) (a := 31) (CN := RX5) (T := TX5) (N := 19) hC iX5_canBegin_5 fX5_canBegin_51 rfl dX5_canBegin_64 rfl rfl (by decide) rfl ?_
                refine m_iload_n hC dX5_canBegin_67 1 rfl ?_
                refine m_iaload (o := 31) (n := 5) hC rfl dX5_canBegin_68 (by omega) (by omega) (by decide) ?_
                refine m_icmp_eq (tgt := 76) hC dX5_canBegin_69 (by decide) (by omega) (by omega) (fun c_69 => ?_) (fun c_69 => ?_)
                · refine m_iconst (v := 0) hC dX5_canBegin_76 (by decide) ?_
                  refine m_istore_n hC dX5_canBegin_77 (fun z9 => [(2, .int (z32 z9)), (0, .ref (g.2.2 18)), (1, .int (z32 x)), (3, .int (z32 y))]) (by decide) (fun _ => rfl) (fun v2_77 hv2_77 => ?_)
                  refine m_iinc hC dX5_canBegin_78 3 rfl (fun z9 => [(3, .int (z32 z9)), (2, .int (z32 v2_77)), (0, .ref (g.2.2 18)), (1, .int (z32 x))]) (by decide) (fun _ => rfl) (fun v3_78 hv3_78 => ?_)
                  refine m_goto (tgt := 48) hC dX5_canBegin_81 (by decide) ?_
                  refine m_locals [2, 3, 1, 0] rfl ?_
                  exact ih48 (i + 1) v3_78 v2_77 (by omega) (by omega) (by omega) (by rw [hv2_77, anyI, Bool.not_or, ← Bool.and_assoc, bv, ← hy]; first | rfl | (rw [decide_eq_true c_69]; rfl) | (rw [decide_eq_false c_69]; rfl))
                · refine m_iconst (v := 1) hC dX5_canBegin_72 (by decide) ?_
                  refine m_goto (tgt := 77) hC dX5_canBegin_73 (by decide) ?_
                  refine m_istore_n hC dX5_canBegin_77 (fun z9 => [(2, .int (z32 z9)), (0, .ref (g.2.2 18)), (1, .int (z32 x)), (3, .int (z32 y))]) (by decide) (fun _ => rfl) (fun v2_77 hv2_77 => ?_)
                  refine m_iinc hC dX5_canBegin_78 3 rfl (fun z9 => [(3, .int (z32 z9)), (2, .int (z32 v2_77)), (0, .ref (g.2.2 18)), (1, .int (z32 x))]) (by decide) (fun _ => rfl) (fun v3_78 hv3_78 => ?_)
                  refine m_goto (tgt := 48) hC dX5_canBegin_81 (by decide) ?_
                  refine m_locals [2, 3, 1, 0] rfl ?_
                  exact ih48 (i + 1) v3_78 v2_77 (by omega) (by omega) (by omega) (by rw [hv2_77, anyI, Bool.not_or, ← Bool.and_assoc, bv, ← hy]; first | rfl | (rw [decide_eq_true c_69]; rfl) | (rw [decide_eq_false c_69]; rfl))
        refine m_locals [2, 3, 1, 0] rfl ?_
        exact L48 6 0 v3_47 v2_45 (by omega) (by omega) (by omega) (by rw [hv2_45, hB]; rfl)
      · have hB : cb0 S x = true := by unfold cb0; rw [decide_eq_true (p := S 31 0 < S 31 x) (by omega), show GR S (S 31 (x - 1)) (S 31 x) = true from decide_eq_true (by omega)]; exact Bool.or_true _
        refine m_iconst (v := 1) hC dX5_canBegin_40 (by decide) ?_
        refine m_goto (tgt := 45) hC dX5_canBegin_41 (by decide) ?_
        refine m_istore_n hC dX5_canBegin_45 (fun z9 => [(2, .int (z32 z9)), (0, .ref (g.2.2 18)), (1, .int (z32 x))]) (by decide) (fun _ => rfl) (fun v2_45 hv2_45 => ?_)
        refine m_iconst (v := 0) hC dX5_canBegin_46 (by decide) ?_
        refine m_istore_n hC dX5_canBegin_47 (fun z9 => [(3, .int (z32 z9)), (2, .int (z32 v2_45)), (0, .ref (g.2.2 18)), (1, .int (z32 x))]) (by decide) (fun _ => rfl) (fun v3_47 hv3_47 => ?_)
        have L48 : ∀ (n48 : Nat) (i : Nat) (y : Int) (v : Int), x - y < (n48 : Int) → y = (i : Int) → i ≤ p → v = bI (cb0 S x && !anyI (fun k => decide (S 31 k = S 31 x)) i) → MW C g 4 (0, 0) 48 [(0, .ref (g.2.2 18)), (1, .int (z32 x)), (2, .int (z32 v)), (3, .int (z32 y))] [] S := by
          intro n48
          induction n48 with
          | zero => intros; exfalso; omega
          | succ n48 ih48 =>
            intro i y v hm48 hy hi hv
            have hry := hr y
            refine m_iload_n hC dX5_canBegin_48 3 rfl ?_
            refine m_iload_n hC dX5_canBegin_49 1 rfl ?_
            refine m_icmp_ge (tgt := 84) hC dX5_canBegin_50 (by decide) (by omega) (by omega) (fun c_50 => ?_) (fun c_50 => ?_)
            · refine m_iload_n hC dX5_canBegin_84 2 rfl ?_
              refine m_ireti hC hR (Or.inr ⟨rfl, by rw [hv]; exact bI_rng _⟩) dX5_canBegin_85 ⟨Nat.le_of_ble_eq_true rfl, Nat.le_of_ble_eq_true rfl⟩ ?_ ?_
              · rw [hv, show i = p by omega, hx]; rfl
              · rfl
            · refine m_iload_n hC dX5_canBegin_53 2 rfl ?_
              refine m_if_eq (tgt := 76) hC dX5_canBegin_54 (by decide) (by rw [hv]; exact bI_32 _) (fun c_54 => ?_) (fun c_54 => ?_)
              · have bv := bI_0 (hv.symm.trans c_54)
                refine m_iconst (v := 0) hC dX5_canBegin_76 (by decide) ?_
                refine m_istore_n hC dX5_canBegin_77 (fun z9 => [(2, .int (z32 z9)), (0, .ref (g.2.2 18)), (1, .int (z32 x)), (3, .int (z32 y))]) (by decide) (fun _ => rfl) (fun v2_77 hv2_77 => ?_)
                refine m_iinc hC dX5_canBegin_78 3 rfl (fun z9 => [(3, .int (z32 z9)), (2, .int (z32 v2_77)), (0, .ref (g.2.2 18)), (1, .int (z32 x))]) (by decide) (fun _ => rfl) (fun v3_78 hv3_78 => ?_)
                refine m_goto (tgt := 48) hC dX5_canBegin_81 (by decide) ?_
                refine m_locals [2, 3, 1, 0] rfl ?_
                exact ih48 (i + 1) v3_78 v2_77 (by omega) (by omega) (by omega) (by rw [hv2_77, anyI, Bool.not_or, ← Bool.and_assoc, bv, ← hy]; first | rfl | (rw [decide_eq_true c_69]; rfl) | (rw [decide_eq_false c_69]; rfl))
              · have bv := bI_1 (fun z => c_54 (hv.trans z))
                refine m_aload_n hC dX5_canBegin_57 0 rfl ?_
                refine m_getR (o := 18) (j := 18) (a := 31) (CN := RX5) (T := TX5) (N := 19) hC iX5_canBegin_5 fX5_canBegin_51 rfl dX5_canBegin_58 rfl rfl (by decide) rfl ?_
                refine m_iload_n hC dX5_canBegin_61 3 rfl ?_
                refine m_iaload (o := 31) (n := 5) hC rfl dX5_canBegin_62 (by omega) (by omega) (by decide) ?_
                refine m_aload_n hC dX5_canBegin_63 0 rfl ?_
                refine m_getR (o := 18) (j := 18) (a := 31) (CN := RX5) (T := TX5) (N := 19) hC iX5_canBegin_5 fX5_canBegin_51 rfl dX5_canBegin_64 rfl rfl (by decide) rfl ?_
                refine m_iload_n hC dX5_canBegin_67 1 rfl ?_
                refine m_iaload (o := 31) (n := 5) hC rfl dX5_canBegin_68 (by omega) (by omega) (by decide) ?_
                refine m_icmp_eq (tgt := 76) hC dX5_canBegin_69 (by decide) (by omega) (by omega) (fun c_69 => ?_) (fun c_69 => ?_)
                · refine m_iconst (v := 0) hC dX5_canBegin_76 (by decide) ?_
                  refine m_istore_n hC dX5_canBegin_77 (fun z9 => [(2, .int (z32 z9)), (0, .ref (g.2.2 18)), (1, .int (z32 x)), (3, .int (z32 y))]) (by decide) (fun _ => rfl) (fun v2_77 hv2_77 => ?_)
                  refine m_iinc hC dX5_canBegin_78 3 rfl (fun z9 => [(3, .int (z32 z9)), (2, .int (z32 v2_77)), (0, .ref (g.2.2 18)), (1, .int (z32 x))]) (by decide) (fun _ => rfl) (fun v3_78 hv3_78 => ?_)
                  refine m_goto (tgt := 48) hC dX5_canBegin_81 (by decide) ?_
                  refine m_locals [2, 3, 1, 0] rfl ?_
                  exact ih48 (i + 1) v3_78 v2_77 (by omega) (by omega) (by omega) (by rw [hv2_77, anyI, Bool.not_or, ← Bool.and_assoc, bv, ← hy]; first | rfl | (rw [decide_eq_true c_69]; rfl) | (rw [decide_eq_false c_69]; rfl))
                · refine m_iconst (v := 1) hC dX5_canBegin_72 (by decide) ?_
                  refine m_goto (tgt := 77) hC dX5_canBegin_73 (by decide) ?_
                  refine m_istore_n hC dX5_canBegin_77 (fun z9 => [(2, .int (z32 z9)), (0, .ref (g.2.2 18)), (1, .int (z32 x)), (3, .int (z32 y))]) (by decide) (fun _ => rfl) (fun v2_77 hv2_77 => ?_)
                  refine m_iinc hC dX5_canBegin_78 3 rfl (fun z9 => [(3, .int (z32 z9)), (2, .int (z32 v2_77)), (0, .ref (g.2.2 18)), (1, .int (z32 x))]) (by decide) (fun _ => rfl) (fun v3_78 hv3_78 => ?_)
                  refine m_goto (tgt := 48) hC dX5_canBegin_81 (by decide) ?_
                  refine m_locals [2, 3, 1, 0] rfl ?_
                  exact ih48 (i + 1) v3_78 v2_77 (by omega) (by omega) (by omega) (by rw [hv2_77, anyI, Bool.not_or, ← Bool.and_assoc, bv, ← hy]; first | rfl | (rw [decide_eq_true c_69]; rfl) | (rw [decide_eq_false c_69]; rfl))
        refine m_locals [2, 3, 1, 0] rfl ?_
        exact L48 6 0 v3_47 v2_45 (by omega) (by omega) (by omega) (by rw [hv2_45, hB]; rfl)
theorem iX5_isRing_5 : ∀ w ∈ wsX50, w ∈ wsX5_isRing := by decide +kernel
theorem fX5_isRing_51 : Cond.fieldLink RX5 51 "MutualledgerModel" "row" "[I" ∈ wsX5_isRing := by decide +kernel
set_option maxHeartbeats 4000000 in
set_option maxRecDepth 100000 in
theorem c_X5_isRing {g : mG} {S : Mem} {m : Nat} {x : Int} (hx : x = m) (hm : 2 ≤ m ∧ m ≤ 5) (hr : ∀ k, -1 ≤ S 31 k ∧ S 31 k ≤ 8) (hq : ∀ k : Int, 0 ≤ k → k < m → 0 ≤ S 31 k ∧ S 31 k < 8) (hok : Ok (S 20)) (hf : Fz (S 20) (S 21)) (l : Launch) : Does l yX5_isRing wsX5_isRing ({ frames := 2, cells := 0, slots := 0, locals := 43 } : Room) g [.ref (g.2.2 18), .int (z32 x)] S (PI (bI (irR S m)) S) := by
  refine Does.of (cc := cX5_isRing) (maxL := 5) (ret := (some .boolean)) (own := RX5) (by decide) rfl rfl (Nat.le_of_ble_eq_true rfl) ?_
  intro C hC hR
  show MW C g 5 (0, 0) 0 [(0, .ref (g.2.2 18)), (1, .int (z32 x))] [] S
  have hO : ∀ i j : Int, 0 ≤ i ∧ i < 9 → 0 ≤ j ∧ j < 9 → 0 ≤ S 20 (ix i j) - S 21 (ix i j) ∧ S 20 (ix i j) - S 21 (ix i j) ≤ 200000 := fun i j hi hj => by
    have h1 := hok.ent hi hj
    have h3 := hf i j hi.1 hi.2 hj.1 hj.2
    omega
  have hr0 := hr 0
  refine m_iconst (v := 1) hC dX5_isRing_0 (by decide) ?_
  refine m_istore_n hC dX5_isRing_1 (fun z9 => [(2, .int (z32 z9)), (0, .ref (g.2.2 18)), (1, .int (z32 x))]) (by decide) (fun _ => rfl) (fun v2_1 hv2_1 => ?_)
  refine m_iconst (v := 0) hC dX5_isRing_2 (by decide) ?_
  refine m_istore_n hC dX5_isRing_3 (fun z9 => [(3, .int (z32 z9)), (2, .int (z32 v2_1)), (0, .ref (g.2.2 18)), (1, .int (z32 x))]) (by decide) (fun _ => rfl) (fun v3_3 hv3_3 => ?_)
  have L4 : ∀ (n4 : Nat) (k : Nat) (y : Int) (v : Int), x - y < (n4 : Int) → y = (k : Int) → k ≤ m → v = bI (!anyI (fun k => !okK S x k) k) → MW C g 5 (0, 0) 4 [(0, .ref (g.2.2 18)), (1, .int (z32 x)), (2, .int (z32 v)), (3, .int (z32 y))] [] S := by
    intro n4
    induction n4 with
    | zero => intros; exfalso; omega
    | succ n4 ih4 =>
      intro k y v hm4 hy hk hv
      have hry := hr y
      refine m_iload_n hC dX5_isRing_4 3 rfl ?_
      refine m_iload_n hC dX5_isRing_5 1 rfl ?_
      refine m_icmp_ge (tgt := 108) hC dX5_isRing_6 (by decide) (by omega) (by omega) (fun c_6 => ?_) (fun c_6 => ?_)
      · refine m_iload_n hC dX5_isRing_108 2 rfl ?_
        refine m_ireti hC hR (Or.inr ⟨rfl, by rw [hv]; exact bI_rng _⟩) dX5_isRing_109 ⟨Nat.le_of_ble_eq_true rfl, Nat.le_of_ble_eq_true rfl⟩ ?_ ?_
        · rw [hv, show k = m by omega, hx]; rfl
        · rfl
      · refine m_iload_n hC dX5_isRing_9 2 rfl ?_
        refine m_if_eq (tgt := 59) hC dX5_isRing_10 (by decide) (by rw [hv]; exact bI_32 _) (fun c_10 => ?_) (fun c_10 => ?_)
        · have bv := bI_0 (hv.symm.trans c_10)
          refine m_iconst (v := 0) hC dX5_isRing_59 (by decide) ?_
          refine m_istore_n hC dX5_isRing_60 (fun z9 => [(2, .int (z32 z9)), (0, .ref (g.2.2 18)), (1, .int (z32 x)), (3, .int (z32 y))]) (by decide) (fun _ => rfl) (fun v2_60 hv2_60 => ?_)
          refine m_iconst (v := 0) hC dX5_isRing_61 (by decide) ?_
          refine m_istore hC dX5_isRing_62 (fun z9 => [(4, .int (z32 z9)), (2, .int (z32 v2_60)), (0, .ref (g.2.2 18)), (1, .int (z32 x)), (3, .int (z32 y))]) (by decide) (fun _ => rfl) (fun v4_62 hv4_62 => ?_)
          have L64 : ∀ (n64 : Nat) (j : Nat) (z : Int) (w : Int), y - z < (n64 : Int) → z = (j : Int) → j ≤ k → w = bI (((!anyI (fun k => !okK S x k) k) && ok0 S x y) && !anyI (fun i => decide (S 31 i = S 31 y)) j) → MW C g 5 (0, 0) 64 [(0, .ref (g.2.2 18)), (1, .int (z32 x)), (2, .int (z32 w)), (3, .int (z32 y)), (4, .int (z32 z))] [] S := by
            intro n64
            induction n64 with
            | zero => intros; exfalso; omega
            | succ n64 ih64 =>
              intro j z w hm64 hz hj hw
              have hrz := hr z
              refine m_iload hC dX5_isRing_64 4 rfl ?_
              refine m_iload_n hC dX5_isRing_66 3 rfl ?_
              refine m_icmp_ge (tgt := 102) hC dX5_isRing_67 (by decide) (by omega) (by omega) (fun c_67 => ?_) (fun c_67 => ?_)
              · refine m_iinc hC dX5_isRing_102 3 rfl (fun z9 => [(3, .int (z32 z9)), (0, .ref (g.2.2 18)), (1, .int (z32 x)), (2, .int (z32 w)), (4, .int (z32 z))]) (by decide) (fun _ => rfl) (fun v3_102 hv3_102 => ?_)
                refine m_goto (tgt := 4) hC dX5_isRing_105 (by decide) ?_
                refine m_locals [1, 2, 3, 0] rfl ?_
                exact ih4 (k + 1) v3_102 w (by omega) (by omega) (by omega) (by rw [hw, show j = k by omega, anyI, Bool.not_or, Bool.not_not, Bool.and_assoc, hy]; rfl)
              · refine m_iload_n hC dX5_isRing_70 2 rfl ?_
                refine m_if_eq (tgt := 94) hC dX5_isRing_71 (by decide) (by rw [hw]; exact bI_32 _) (fun c_71 => ?_) (fun c_71 => ?_)
                · have bw := bI_0 (hw.symm.trans c_71)
                  refine m_iconst (v := 0) hC dX5_isRing_94 (by decide) ?_
                  refine m_istore_n hC dX5_isRing_95 (fun z9 => [(2, .int (z32 z9)), (0, .ref (g.2.2 18)), (1, .int (z32 x)), (3, .int (z32 y)), (4, .int (z32 z))]) (by decide) (fun _ => rfl) (fun v2_95 hv2_95 => ?_)
                  refine m_iinc hC dX5_isRing_96 4 rfl (fun z9 => [(4, .int (z32 z9)), (2, .int (z32 v2_95)), (0, .ref (g.2.2 18)), (1, .int (z32 x)), (3, .int (z32 y))]) (by decide) (fun _ => rfl) (fun v4_96 hv4_96 => ?_)
                  refine m_goto (tgt := 64) hC dX5_isRing_99 (by decide) ?_
                  refine m_locals [2, 3, 1, 4, 0] rfl ?_
                  exact ih64 (j + 1) v4_96 v2_95 (by omega) (by omega) (by omega) (by rw [hv2_95, anyI, Bool.not_or, ← Bool.and_assoc, bw, ← hz]; first | rfl | (rw [decide_eq_true c_87]; rfl) | (rw [decide_eq_false c_87]; rfl))
                · have bw := bI_1 (fun q => c_71 (hw.trans q))
                  refine m_aload_n hC dX5_isRing_74 0 rfl ?_
                  refine m_getR (o := 18) (j := 18) (a := 31) (CN := RX5) (T := TX5) (N := 19) hC iX5_isRing_5 fX5_isRing_51 rfl dX5_isRing_75 rfl rfl (by decide) rfl ?_
                  refine m_iload hC dX5_isRing_78 4 rfl ?_
                  refine m_iaload (o := 31) (n := 5) hC rfl dX5_isRing_80 (by omega) (by omega) (by decide) ?_
                  refine m_aload_n hC dX5_isRing_81 0 rfl ?_
                  refine m_getR (o := 18) (j := 18) (a := 31) (CN := RX5) (T := TX5) (N := 19) hC iX5_isRing_5 fX5_isRing_51 rfl dX5_isRing_82 rfl rfl (by decide) rfl ?_
                  refine m_iload_n hC dX5_isRing_85 3 rfl ?_
                  refine m_iaload (o := 31) (n := 5) hC rfl dX5_isRing_86 (by omega) (by omega) (by decide) ?_
                  refine m_icmp_eq (tgt := 94) hC dX5_isRing_87 (by decide) (by omega) (by omega) (fun c_87 => ?_) (fun c_87 => ?_)
                  · refine m_iconst (v := 0) hC dX5_isRing_94 (by decide) ?_
                    refine m_istore_n hC dX5_isRing_95 (fun z9 => [(2, .int (z32 z9)), (0, .ref (g.2.2 18)), (1, .int (z32 x)), (3, .int (z32 y)), (4, .int (z32 z))]) (by decide) (fun _ => rfl) (fun v2_95 hv2_95 => ?_)
                    refine m_iinc hC dX5_isRing_96 4 rfl (fun z9 => [(4, .int (z32 z9)), (2, .int (z32 v2_95)), (0, .ref (g.2.2 18)), (1, .int (z32 x)), (3, .int (z32 y))]) (by decide) (fun _ => rfl) (fun v4_96 hv4_96 => ?_)
                    refine m_goto (tgt := 64) hC dX5_isRing_99 (by decide) ?_
                    refine m_locals [2, 3, 1, 4, 0] rfl ?_
                    exact ih64 (j + 1) v4_96 v2_95 (by omega) (by omega) (by omega) (by rw [hv2_95, anyI, Bool.not_or, ← Bool.and_assoc, bw, ← hz]; first | rfl | (rw [decide_eq_true c_87]; rfl) | (rw [decide_eq_false c_87]; rfl))
                  · refine m_iconst (v := 1) hC dX5_isRing_90 (by decide) ?_
                    refine m_goto (tgt := 95) hC dX5_isRing_91 (by decide) ?_
                    refine m_istore_n hC dX5_isRing_95 (fun z9 => [(2, .int (z32 z9)), (0, .ref (g.2.2 18)), (1, .int (z32 x)), (3, .int (z32 y)), (4, .int (z32 z))]) (by decide) (fun _ => rfl) (fun v2_95 hv2_95 => ?_)
                    refine m_iinc hC dX5_isRing_96 4 rfl (fun z9 => [(4, .int (z32 z9)), (2, .int (z32 v2_95)), (0, .ref (g.2.2 18)), (1, .int (z32 x)), (3, .int (z32 y))]) (by decide) (fun _ => rfl) (fun v4_96 hv4_96 => ?_)
                    refine m_goto (tgt := 64) hC dX5_isRing_99 (by decide) ?_
                    refine m_locals [2, 3, 1, 4, 0] rfl ?_
                    exact ih64 (j + 1) v4_96 v2_95 (by omega) (by omega) (by omega) (by rw [hv2_95, anyI, Bool.not_or, ← Bool.and_assoc, bw, ← hz]; first | rfl | (rw [decide_eq_true c_87]; rfl) | (rw [decide_eq_false c_87]; rfl))
          refine m_locals [2, 3, 1, 4, 0] rfl ?_
          exact L64 6 0 v4_62 v2_60 (by omega) (by omega) (by omega) (by rw [hv2_60, bv]; first | rfl | (rw [hO0]; rfl))
        · have bv := bI_1 (fun z => c_10 (hv.trans z))
          refine m_aload_n hC dX5_isRing_13 0 rfl ?_
          refine m_aload_n hC dX5_isRing_14 0 rfl ?_
          refine m_getR (o := 18) (j := 18) (a := 31) (CN := RX5) (T := TX5) (N := 19) hC iX5_isRing_5 fX5_isRing_51 rfl dX5_isRing_15 rfl rfl (by decide) rfl ?_
          refine m_iload_n hC dX5_isRing_18 3 rfl ?_
          refine m_iaload (o := 31) (n := 5) hC rfl dX5_isRing_19 (by omega) (by omega) (by decide) ?_
          refine m_aload_n hC dX5_isRing_20 0 rfl ?_
          refine m_getR (o := 18) (j := 18) (a := 31) (CN := RX5) (T := TX5) (N := 19) hC iX5_isRing_5 fX5_isRing_51 rfl dX5_isRing_21 rfl rfl (by decide) rfl ?_
          refine m_iload_n hC dX5_isRing_24 3 rfl ?_
          refine m_iconst (v := 1) hC dX5_isRing_25 (by decide) ?_
          refine m_iadd hC dX5_isRing_26 ?_
          refine m_iload_n hC dX5_isRing_27 1 rfl ?_
          refine m_irem hC dX5_isRing_28 (by omega) (by omega) ?_
          rw [nxt_rem (m := x) (k := y) (by omega) (by omega)]
          have hnx := nxt_in (m := x) (k := y) (by omega) (by omega)
          refine m_iaload (o := 31) (n := 5) hC rfl dX5_isRing_29 (by omega) (by omega) (by decide) ?_
          have hq1 := hq y (by omega) (by omega)
          have hq2 := hq (nxt x y) (by omega) (by omega)
          have hq3 := hO (S 31 y) (S 31 (nxt x y)) (by omega) (by omega)
          refine m_callVi (n := 2) hC (c_X5_free (by omega) (by omega)) gX5_isRing_X5_free rfl dX5_isRing_30 rfl rfl (by decide +kernel) ⟨Nat.le_of_ble_eq_true rfl, Nat.le_of_ble_eq_true rfl⟩ rfl (Nat.le_of_ble_eq_true rfl) ⟨Nat.le_of_ble_eq_true rfl, Nat.le_of_ble_eq_true rfl⟩ rfl ?_
          refine m_if_le (tgt := 59) hC dX5_isRing_33 (by decide) (by omega) (fun c_33 => ?_) (fun c_33 => ?_)
          · have hO0 : ok0 S x y = false := by unfold ok0; rw [show GR S (S 31 y) (S 31 (nxt x y)) = false from decide_eq_false (by omega)]; rfl
            refine m_iconst (v := 0) hC dX5_isRing_59 (by decide) ?_
            refine m_istore_n hC dX5_isRing_60 (fun z9 => [(2, .int (z32 z9)), (0, .ref (g.2.2 18)), (1, .int (z32 x)), (3, .int (z32 y))]) (by decide) (fun _ => rfl) (fun v2_60 hv2_60 => ?_)
            refine m_iconst (v := 0) hC dX5_isRing_61 (by decide) ?_
            refine m_istore hC dX5_isRing_62 (fun z9 => [(4, .int (z32 z9)), (2, .int (z32 v2_60)), (0, .ref (g.2.2 18)), (1, .int (z32 x)), (3, .int (z32 y))]) (by decide) (fun _ => rfl) (fun v4_62 hv4_62 => ?_)
            have L64 : ∀ (n64 : Nat) (j : Nat) (z : Int) (w : Int), y - z < (n64 : Int) → z = (j : Int) → j ≤ k → w = bI (((!anyI (fun k => !okK S x k) k) && ok0 S x y) && !anyI (fun i => decide (S 31 i = S 31 y)) j) → MW C g 5 (0, 0) 64 [(0, .ref (g.2.2 18)), (1, .int (z32 x)), (2, .int (z32 w)), (3, .int (z32 y)), (4, .int (z32 z))] [] S := by
              intro n64
              induction n64 with
              | zero => intros; exfalso; omega
              | succ n64 ih64 =>
                intro j z w hm64 hz hj hw
                have hrz := hr z
                refine m_iload hC dX5_isRing_64 4 rfl ?_
                refine m_iload_n hC dX5_isRing_66 3 rfl ?_
                refine m_icmp_ge (tgt := 102) hC dX5_isRing_67 (by decide) (by omega) (by omega) (fun c_67 => ?_) (fun c_67 => ?_)
                · refine m_iinc hC dX5_isRing_102 3 rfl (fun z9 => [(3, .int (z32 z9)), (0, .ref (g.2.2 18)), (1, .int (z32 x)), (2, .int (z32 w)), (4, .int (z32 z))]) (by decide) (fun _ => rfl) (fun v3_102 hv3_102 => ?_)
                  refine m_goto (tgt := 4) hC dX5_isRing_105 (by decide) ?_
                  refine m_locals [1, 2, 3, 0] rfl ?_
                  exact ih4 (k + 1) v3_102 w (by omega) (by omega) (by omega) (by rw [hw, show j = k by omega, anyI, Bool.not_or, Bool.not_not, Bool.and_assoc, hy]; rfl)
                · refine m_iload_n hC dX5_isRing_70 2 rfl ?_
                  refine m_if_eq (tgt := 94) hC dX5_isRing_71 (by decide) (by rw [hw]; exact bI_32 _) (fun c_71 => ?_) (fun c_71 => ?_)
                  · have bw := bI_0 (hw.symm.trans c_71)
                    refine m_iconst (v := 0) hC dX5_isRing_94 (by decide) ?_
                    refine m_istore_n hC dX5_isRing_95 (fun z9 => [(2, .int (z32 z9)), (0, .ref (g.2.2 18)), (1, .int (z32 x)), (3, .int (z32 y)), (4, .int (z32 z))]) (by decide) (fun _ => rfl) (fun v2_95 hv2_95 => ?_)
                    refine m_iinc hC dX5_isRing_96 4 rfl (fun z9 => [(4, .int (z32 z9)), (2, .int (z32 v2_95)), (0, .ref (g.2.2 18)), (1, .int (z32 x)), (3, .int (z32 y))]) (by decide) (fun _ => rfl) (fun v4_96 hv4_96 => ?_)
                    refine m_goto (tgt := 64) hC dX5_isRing_99 (by decide) ?_
                    refine m_locals [2, 3, 1, 4, 0] rfl ?_
                    exact ih64 (j + 1) v4_96 v2_95 (by omega) (by omega) (by omega) (by rw [hv2_95, anyI, Bool.not_or, ← Bool.and_assoc, bw, ← hz]; first | rfl | (rw [decide_eq_true c_87]; rfl) | (rw [decide_eq_false c_87]; rfl))
                  · have bw := bI_1 (fun q => c_71 (hw.trans q))
                    refine m_aload_n hC dX5_isRing_74 0 rfl ?_
                    refine m_getR (o := 18) (j := 18) (a := 31) (CN := RX5) (T := TX5) (N := 19) hC iX5_isRing_5 fX5_isRing_51 rfl dX5_isRing_75 rfl rfl (by decide) rfl ?_
                    refine m_iload hC dX5_isRing_78 4 rfl ?_
                    refine m_iaload (o := 31) (n := 5) hC rfl dX5_isRing_80 (by omega) (by omega) (by decide) ?_
                    refine m_aload_n hC dX5_isRing_81 0 rfl ?_
                    refine m_getR (o := 18) (j := 18) (a := 31) (CN := RX5) (T := TX5) (N := 19) hC iX5_isRing_5 fX5_isRing_51 rfl dX5_isRing_82 rfl rfl (by decide) rfl ?_
                    refine m_iload_n hC dX5_isRing_85 3 rfl ?_
                    refine m_iaload (o := 31) (n := 5) hC rfl dX5_isRing_86 (by omega) (by omega) (by decide) ?_
                    refine m_icmp_eq (tgt := 94) hC dX5_isRing_87 (by decide) (by omega) (by omega) (fun c_87 => ?_) (fun c_87 => ?_)
                    · refine m_iconst (v := 0) hC dX5_isRing_94 (by decide) ?_
                      refine m_istore_n hC dX5_isRing_95 (fun z9 => [(2, .int (z32 z9)), (0, .ref (g.2.2 18)), (1, .int (z32 x)), (3, .int (z32 y)), (4, .int (z32 z))]) (by decide) (fun _ => rfl) (fun v2_95 hv2_95 => ?_)
                      refine m_iinc hC dX5_isRing_96 4 rfl (fun z9 => [(4, .int (z32 z9)), (2, .int (z32 v2_95)), (0, .ref (g.2.2 18)), (1, .int (z32 x)), (3, .int (z32 y))]) (by decide) (fun _ => rfl) (fun v4_96 hv4_96 => ?_)
                      refine m_goto (tgt := 64) hC dX5_isRing_99 (by decide) ?_
                      refine m_locals [2, 3, 1, 4, 0] rfl ?_
                      exact ih64 (j + 1) v4_96 v2_95 (by omega) (by omega) (by omega) (by rw [hv2_95, anyI, Bool.not_or, ← Bool.and_assoc, bw, ← hz]; first | rfl | (rw [decide_eq_true c_87]; rfl) | (rw [decide_eq_false c_87]; rfl))
                    · refine m_iconst (v := 1) hC dX5_isRing_90 (by decide) ?_
                      refine m_goto (tgt := 95) hC dX5_isRing_91 (by decide) ?_
                      refine m_istore_n hC dX5_isRing_95 (fun z9 => [(2, .int (z32 z9)), (0, .ref (g.2.2 18)), (1, .int (z32 x)), (3, .int (z32 y)), (4, .int (z32 z))]) (by decide) (fun _ => rfl) (fun v2_95 hv2_95 => ?_)
                      refine m_iinc hC dX5_isRing_96 4 rfl (fun z9 => [(4, .int (z32 z9)), (2, .int (z32 v2_95)), (0, .ref (g.2.2 18)), (1, .int (z32 x)), (3, .int (z32 y))]) (by decide) (fun _ => rfl) (fun v4_96 hv4_96 => ?_)
                      refine m_goto (tgt := 64) hC dX5_isRing_99 (by decide) ?_
                      refine m_locals [2, 3, 1, 4, 0] rfl ?_
                      exact ih64 (j + 1) v4_96 v2_95 (by omega) (by omega) (by omega) (by rw [hv2_95, anyI, Bool.not_or, ← Bool.and_assoc, bw, ← hz]; first | rfl | (rw [decide_eq_true c_87]; rfl) | (rw [decide_eq_false c_87]; rfl))
            refine m_locals [2, 3, 1, 4, 0] rfl ?_
            exact L64 6 0 v4_62 v2_60 (by omega) (by omega) (by omega) (by rw [hv2_60, bv]; first | rfl | (rw [hO0]; rfl))
          · have hE : GR S (S 31 y) (S 31 (nxt x y)) = true := decide_eq_true (by omega)
            refine m_iload_n hC dX5_isRing_36 3 rfl ?_
            refine m_if_eq (tgt := 55) hC dX5_isRing_37 (by decide) (by omega) (fun c_37 => ?_) (fun c_37 => ?_)
            · have hO0 : ok0 S x y = true := by unfold ok0; rw [hE, decide_eq_true c_37]; rfl
              refine m_iconst (v := 1) hC dX5_isRing_55 (by decide) ?_
              refine m_goto (tgt := 60) hC dX5_isRing_56 (by decide) ?_
              refine m_istore_n hC dX5_isRing_60 (fun z9 => [(2, .int (z32 z9)), (0, .ref (g.2.2 18)), (1, .int (z32 x)), (3, .int (z32 y))]) (by decide) (fun _ => rfl) (fun v2_60 hv2_60 => ?_)
              refine m_iconst (v := 0) hC dX5_isRing_61 (by decide) ?_
              refine m_istore hC dX5_isRing_62 (fun z9 => [(4, .int (z32 z9)), (2, .int (z32 v2_60)), (0, .ref (g.2.2 18)), (1, .int (z32 x)), (3, .int (z32 y))]) (by decide) (fun _ => rfl) (fun v4_62 hv4_62 => ?_)
              have L64 : ∀ (n64 : Nat) (j : Nat) (z : Int) (w : Int), y - z < (n64 : Int) → z = (j : Int) → j ≤ k → w = bI (((!anyI (fun k => !okK S x k) k) && ok0 S x y) && !anyI (fun i => decide (S 31 i = S 31 y)) j) → MW C g 5 (0, 0) 64 [(0, .ref (g.2.2 18)), (1, .int (z32 x)), (2, .int (z32 w)), (3, .int (z32 y)), (4, .int (z32 z))] [] S := by
                intro n64
                induction n64 with
                | zero => intros; exfalso; omega
                | succ n64 ih64 =>
                  intro j z w hm64 hz hj hw
                  have hrz := hr z
                  refine m_iload hC dX5_isRing_64 4 rfl ?_
                  refine m_iload_n hC dX5_isRing_66 3 rfl ?_
                  refine m_icmp_ge (tgt := 102) hC dX5_isRing_67 (by decide) (by omega) (by omega) (fun c_67 => ?_) (fun c_67 => ?_)
                  · refine m_iinc hC dX5_isRing_102 3 rfl (fun z9 => [(3, .int (z32 z9)), (0, .ref (g.2.2 18)), (1, .int (z32 x)), (2, .int (z32 w)), (4, .int (z32 z))]) (by decide) (fun _ => rfl) (fun v3_102 hv3_102 => ?_)
                    refine m_goto (tgt := 4) hC dX5_isRing_105 (by decide) ?_
                    refine m_locals [1, 2, 3, 0] rfl ?_
                    exact ih4 (k + 1) v3_102 w (by omega) (by omega) (by omega) (by rw [hw, show j = k by omega, anyI, Bool.not_or, Bool.not_not, Bool.and_assoc, hy]; rfl)
                  · refine m_iload_n hC dX5_isRing_70 2 rfl ?_
                    refine m_if_eq (tgt := 94) hC dX5_isRing_71 (by decide) (by rw [hw]; exact bI_32 _) (fun c_71 => ?_) (fun c_71 => ?_)
                    · have bw := bI_0 (hw.symm.trans c_71)
                      refine m_iconst (v := 0) hC dX5_isRing_94 (by decide) ?_
                      refine m_istore_n hC dX5_isRing_95 (fun z9 => [(2, .int (z32 z9)), (0, .ref (g.2.2 18)), (1, .int (z32 x)), (3, .int (z32 y)), (4, .int (z32 z))]) (by decide) (fun _ => rfl) (fun v2_95 hv2_95 => ?_)
                      refine m_iinc hC dX5_isRing_96 4 rfl (fun z9 => [(4, .int (z32 z9)), (2, .int (z32 v2_95)), (0, .ref (g.2.2 18)), (1, .int (z32 x)), (3, .int (z32 y))]) (by decide) (fun _ => rfl) (fun v4_96 hv4_96 => ?_)
                      refine m_goto (tgt := 64) hC dX5_isRing_99 (by decide) ?_
                      refine m_locals [2, 3, 1, 4, 0] rfl ?_
                      exact ih64 (j + 1) v4_96 v2_95 (by omega) (by omega) (by omega) (by rw [hv2_95, anyI, Bool.not_or, ← Bool.and_assoc, bw, ← hz]; first | rfl | (rw [decide_eq_true c_87]; rfl) | (rw [decide_eq_false c_87]; rfl))
                    · have bw := bI_1 (fun q => c_71 (hw.trans q))
                      refine m_aload_n hC dX5_isRing_74 0 rfl ?_
                      refine m_getR (o := 18) (j := 18) (a := 31) (CN := RX5) (T := TX5) (N := 19) hC iX5_isRing_5 fX5_isRing_51 rfl dX5_isRing_75 rfl rfl (by decide) rfl ?_
                      refine m_iload hC dX5_isRing_78 4 rfl ?_
                      refine m_iaload (o := 31) (n := 5) hC rfl dX5_isRing_80 (by omega) (by omega) (by decide) ?_
                      refine m_aload_n hC dX5_isRing_81 0 rfl ?_
                      refine m_getR (o := 18) (j := 18) (a := 31) (CN := RX5) (T := TX5) (N := 19) hC iX5_isRing_5 fX5_isRing_51 rfl dX5_isRing_82 rfl rfl (by decide) rfl ?_
                      refine m_iload_n hC dX5_isRing_85 3 rfl ?_
                      refine m_iaload (o := 31) (n := 5) hC rfl dX5_isRing_86 (by omega) (by omega) (by decide) ?_
                      refine m_icmp_eq (tgt := 94) hC dX5_isRing_87 (by decide) (by omega) (by omega) (fun c_87 => ?_) (fun c_87 => ?_)
                      · refine m_iconst (v := 0) hC dX5_isRing_94 (by decide) ?_
                        refine m_istore_n hC dX5_isRing_95 (fun z9 => [(2, .int (z32 z9)), (0, .ref (g.2.2 18)), (1, .int (z32 x)), (3, .int (z32 y)), (4, .int (z32 z))]) (by decide) (fun _ => rfl) (fun v2_95 hv2_95 => ?_)
                        refine m_iinc hC dX5_isRing_96 4 rfl (fun z9 => [(4, .int (z32 z9)), (2, .int (z32 v2_95)), (0, .ref (g.2.2 18)), (1, .int (z32 x)), (3, .int (z32 y))]) (by decide) (fun _ => rfl) (fun v4_96 hv4_96 => ?_)
                        refine m_goto (tgt := 64) hC dX5_isRing_99 (by decide) ?_
                        refine m_locals [2, 3, 1, 4, 0] rfl ?_
                        exact ih64 (j + 1) v4_96 v2_95 (by omega) (by omega) (by omega) (by rw [hv2_95, anyI, Bool.not_or, ← Bool.and_assoc, bw, ← hz]; first | rfl | (rw [decide_eq_true c_87]; rfl) | (rw [decide_eq_false c_87]; rfl))
                      · refine m_iconst (v := 1) hC dX5_isRing_90 (by decide) ?_
                        refine m_goto (tgt := 95) hC dX5_isRing_91 (by decide) ?_
                        refine m_istore_n hC dX5_isRing_95 (fun z9 => [(2, .int (z32 z9)), (0, .ref (g.2.2 18)), (1, .int (z32 x)), (3, .int (z32 y)), (4, .int (z32 z))]) (by decide) (fun _ => rfl) (fun v2_95 hv2_95 => ?_)
                        refine m_iinc hC dX5_isRing_96 4 rfl (fun z9 => [(4, .int (z32 z9)), (2, .int (z32 v2_95)), (0, .ref (g.2.2 18)), (1, .int (z32 x)), (3, .int (z32 y))]) (by decide) (fun _ => rfl) (fun v4_96 hv4_96 => ?_)
                        refine m_goto (tgt := 64) hC dX5_isRing_99 (by decide) ?_
                        refine m_locals [2, 3, 1, 4, 0] rfl ?_
                        exact ih64 (j + 1) v4_96 v2_95 (by omega) (by omega) (by omega) (by rw [hv2_95, anyI, Bool.not_or, ← Bool.and_assoc, bw, ← hz]; first | rfl | (rw [decide_eq_true c_87]; rfl) | (rw [decide_eq_false c_87]; rfl))
              refine m_locals [2, 3, 1, 4, 0] rfl ?_
              exact L64 6 0 v4_62 v2_60 (by omega) (by omega) (by omega) (by rw [hv2_60, bv]; first | rfl | (rw [hO0]; rfl))
            · refine m_aload_n hC dX5_isRing_40 0 rfl ?_
              refine m_getR (o := 18) (j := 18) (a := 31) (CN := RX5) (T := TX5) (N := 19) hC iX5_isRing_5 fX5_isRing_51 rfl dX5_isRing_41 rfl rfl (by decide) rfl ?_
              refine m_iload_n hC dX5_isRing_44 3 rfl ?_
              refine m_iaload (o := 31) (n := 5) hC rfl dX5_isRing_45 (by omega) (by omega) (by decide) ?_
              refine m_aload_n hC dX5_isRing_46 0 rfl ?_
              refine m_getR (o := 18) (j := 18) (a := 31) (CN := RX5) (T := TX5) (N := 19) hC iX5_isRing_5 fX5_isRing_51 rfl dX5_isRing_47 rfl rfl (by decide) rfl ?_
              refine m_iconst (v := 0) hC dX5_isRing_50 (by decide) ?_
              refine m_iaload (o := 31) (n := 5) hC rfl dX5_isRing_51 (by omega) (by omega) (by decide) ?_
              refine m_icmp_le (tgt := 59) hC dX5_isRing_52 (by decide) (by omega) (by omega) (fun c_52 => ?_) (fun c_52 => ?_)
              · have hO0 : ok0 S x y = false := by unfold ok0; rw [hE, decide_eq_false c_37, decide_eq_false (p := S 31 0 < S 31 y) (by omega)]; rfl
                refine m_iconst (v := 0) hC dX5_isRing_59 (by decide) ?_
                refine m_istore_n hC dX5_isRing_60 (fun z9 => [(2, .int (z32 z9)), (0, .ref (g.2.2 18)), (1, .int (z32 x)), (3, .int (z32 y))]) (by decide) (fun _ => rfl) (fun v2_60 hv2_60 => ?_)
                refine m_iconst (v := 0) hC dX5_isRing_61 (by decide) ?_
                refine m_istore hC dX5_isRing_62 (fun z9 => [(4, .int (z32 z9)), (2, .int (z32 v2_60)), (0, .ref (g.2.2 18)), (1, .int (z32 x)), (3, .int (z32 y))]) (by decide) (fun _ => rfl) (fun v4_62 hv4_62 => ?_)
                have L64 : ∀ (n64 : Nat) (j : Nat) (z : Int) (w : Int), y - z < (n64 : Int) → z = (j : Int) → j ≤ k → w = bI (((!anyI (fun k => !okK S x k) k) && ok0 S x y) && !anyI (fun i => decide (S 31 i = S 31 y)) j) → MW C g 5 (0, 0) 64 [(0, .ref (g.2.2 18)), (1, .int (z32 x)), (2, .int (z32 w)), (3, .int (z32 y)), (4, .int (z32 z))] [] S := by
                  intro n64
                  induction n64 with
                  | zero => intros; exfalso; omega
                  | succ n64 ih64 =>
                    intro j z w hm64 hz hj hw
                    have hrz := hr z
                    refine m_iload hC dX5_isRing_64 4 rfl ?_
                    refine m_iload_n hC dX5_isRing_66 3 rfl ?_
                    refine m_icmp_ge (tgt := 102) hC dX5_isRing_67 (by decide) (by omega) (by omega) (fun c_67 => ?_) (fun c_67 => ?_)
                    · refine m_iinc hC dX5_isRing_102 3 rfl (fun z9 => [(3, .int (z32 z9)), (0, .ref (g.2.2 18)), (1, .int (z32 x)), (2, .int (z32 w)), (4, .int (z32 z))]) (by decide) (fun _ => rfl) (fun v3_102 hv3_102 => ?_)
                      refine m_goto (tgt := 4) hC dX5_isRing_105 (by decide) ?_
                      refine m_locals [1, 2, 3, 0] rfl ?_
                      exact ih4 (k + 1) v3_102 w (by omega) (by omega) (by omega) (by rw [hw, show j = k by omega, anyI, Bool.not_or, Bool.not_not, Bool.and_assoc, hy]; rfl)
                    · refine m_iload_n hC dX5_isRing_70 2 rfl ?_
                      refine m_if_eq (tgt := 94) hC dX5_isRing_71 (by decide) (by rw [hw]; exact bI_32 _) (fun c_71 => ?_) (fun c_71 => ?_)
                      · have bw := bI_0 (hw.symm.trans c_71)
                        refine m_iconst (v := 0) hC dX5_isRing_94 (by decide) ?_
                        refine m_istore_n hC dX5_isRing_95 (fun z9 => [(2, .int (z32 z9)), (0, .ref (g.2.2 18)), (1, .int (z32 x)), (3, .int (z32 y)), (4, .int (z32 z))]) (by decide) (fun _ => rfl) (fun v2_95 hv2_95 => ?_)
                        refine m_iinc hC dX5_isRing_96 4 rfl (fun z9 => [(4, .int (z32 z9)), (2, .int (z32 v2_95)), (0, .ref (g.2.2 18)), (1, .int (z32 x)), (3, .int (z32 y))]) (by decide) (fun _ => rfl) (fun v4_96 hv4_96 => ?_)
                        refine m_goto (tgt := 64) hC dX5_isRing_99 (by decide) ?_
                        refine m_locals [2, 3, 1, 4, 0] rfl ?_
                        exact ih64 (j + 1) v4_96 v2_95 (by omega) (by omega) (by omega) (by rw [hv2_95, anyI, Bool.not_or, ← Bool.and_assoc, bw, ← hz]; first | rfl | (rw [decide_eq_true c_87]; rfl) | (rw [decide_eq_false c_87]; rfl))
                      · have bw := bI_1 (fun q => c_71 (hw.trans q))
                        refine m_aload_n hC dX5_isRing_74 0 rfl ?_
                        refine m_getR (o := 18) (j := 18) (a := 31) (CN := RX5) (T := TX5) (N := 19) hC iX5_isRing_5 fX5_isRing_51 rfl dX5_isRing_75 rfl rfl (by decide) rfl ?_
                        refine m_iload hC dX5_isRing_78 4 rfl ?_
                        refine m_iaload (o := 31) (n := 5) hC rfl dX5_isRing_80 (by omega) (by omega) (by decide) ?_
                        refine m_aload_n hC dX5_isRing_81 0 rfl ?_
                        refine m_getR (o := 18) (j := 18) (a := 31) (CN := RX5) (T := TX5) (N := 19) hC iX5_isRing_5 fX5_isRing_51 rfl dX5_isRing_82 rfl rfl (by decide) rfl ?_
                        refine m_iload_n hC dX5_isRing_85 3 rfl ?_
                        refine m_iaload (o := 31) (n := 5) hC rfl dX5_isRing_86 (by omega) (by omega) (by decide) ?_
                        refine m_icmp_eq (tgt := 94) hC dX5_isRing_87 (by decide) (by omega) (by omega) (fun c_87 => ?_) (fun c_87 => ?_)
                        · refine m_iconst (v := 0) hC dX5_isRing_94 (by decide) ?_
                          refine m_istore_n hC dX5_isRing_95 (fun z9 => [(2, .int (z32 z9)), (0, .ref (g.2.2 18)), (1, .int (z32 x)), (3, .int (z32 y)), (4, .int (z32 z))]) (by decide) (fun _ => rfl) (fun v2_95 hv2_95 => ?_)
                          refine m_iinc hC dX5_isRing_96 4 rfl (fun z9 => [(4, .int (z32 z9)), (2, .int (z32 v2_95)), (0, .ref (g.2.2 18)), (1, .int (z32 x)), (3, .int (z32 y))]) (by decide) (fun _ => rfl) (fun v4_96 hv4_96 => ?_)
                          refine m_goto (tgt := 64) hC dX5_isRing_99 (by decide) ?_
                          refine m_locals [2, 3, 1, 4, 0] rfl ?_
                          exact ih64 (j + 1) v4_96 v2_95 (by omega) (by omega) (by omega) (by rw [hv2_95, anyI, Bool.not_or, ← Bool.and_assoc, bw, ← hz]; first | rfl | (rw [decide_eq_true c_87]; rfl) | (rw [decide_eq_false c_87]; rfl))
                        · refine m_iconst (v := 1) hC dX5_isRing_90 (by decide) ?_
                          refine m_goto (tgt := 95) hC dX5_isRing_91 (by decide) ?_
                          refine m_istore_n hC dX5_isRing_95 (fun z9 => [(2, .int (z32 z9)), (0, .ref (g.2.2 18)), (1, .int (z32 x)), (3, .int (z32 y)), (4, .int (z32 z))]) (by decide) (fun _ => rfl) (fun v2_95 hv2_95 => ?_)
                          refine m_iinc hC dX5_isRing_96 4 rfl (fun z9 => [(4, .int (z32 z9)), (2, .int (z32 v2_95)), (0, .ref (g.2.2 18)), (1, .int (z32 x)), (3, .int (z32 y))]) (by decide) (fun _ => rfl) (fun v4_96 hv4_96 => ?_)
                          refine m_goto (tgt := 64) hC dX5_isRing_99 (by decide) ?_
                          refine m_locals [2, 3, 1, 4, 0] rfl ?_
                          exact ih64 (j + 1) v4_96 v2_95 (by omega) (by omega) (by omega) (by rw [hv2_95, anyI, Bool.not_or, ← Bool.and_assoc, bw, ← hz]; first | rfl | (rw [decide_eq_true c_87]; rfl) | (rw [decide_eq_false c_87]; rfl))
                refine m_locals [2, 3, 1, 4, 0] rfl ?_
                exact L64 6 0 v4_62 v2_60 (by omega) (by omega) (by omega) (by rw [hv2_60, bv]; first | rfl | (rw [hO0]; rfl))
              · have hO0 : ok0 S x y = true := by unfold ok0; rw [hE, decide_eq_true (p := S 31 0 < S 31 y) (by omega), Bool.or_true]; rfl
                refine m_iconst (v := 1) hC dX5_isRing_55 (by decide) ?_
                refine m_goto (tgt := 60) hC dX5_isRing_56 (by decide) ?_
                refine m_istore_n hC dX5_isRing_60 (fun z9 => [(2, .int (z32 z9)), (0, .ref (g.2.2 18)), (1, .int (z32 x)), (3, .int (z32 y))]) (by decide) (fun _ => rfl) (fun v2_60 hv2_60 => ?_)
                refine m_iconst (v := 0) hC dX5_isRing_61 (by decide) ?_
                refine m_istore hC dX5_isRing_62 (fun z9 => [(4, .int (z32 z9)), (2, .int (z32 v2_60)), (0, .ref (g.2.2 18)), (1, .int (z32 x)), (3, .int (z32 y))]) (by decide) (fun _ => rfl) (fun v4_62 hv4_62 => ?_)
                have L64 : ∀ (n64 : Nat) (j : Nat) (z : Int) (w : Int), y - z < (n64 : Int) → z = (j : Int) → j ≤ k → w = bI (((!anyI (fun k => !okK S x k) k) && ok0 S x y) && !anyI (fun i => decide (S 31 i = S 31 y)) j) → MW C g 5 (0, 0) 64 [(0, .ref (g.2.2 18)), (1, .int (z32 x)), (2, .int (z32 w)), (3, .int (z32 y)), (4, .int (z32 z))] [] S := by
                  intro n64
                  induction n64 with
                  | zero => intros; exfalso; omega
                  | succ n64 ih64 =>
                    intro j z w hm64 hz hj hw
                    have hrz := hr z
                    refine m_iload hC dX5_isRing_64 4 rfl ?_
                    refine m_iload_n hC dX5_isRing_66 3 rfl ?_
                    refine m_icmp_ge (tgt := 102) hC dX5_isRing_67 (by decide) (by omega) (by omega) (fun c_67 => ?_) (fun c_67 => ?_)
                    · refine m_iinc hC dX5_isRing_102 3 rfl (fun z9 => [(3, .int (z32 z9)), (0, .ref (g.2.2 18)), (1, .int (z32 x)), (2, .int (z32 w)), (4, .int (z32 z))]) (by decide) (fun _ => rfl) (fun v3_102 hv3_102 => ?_)
                      refine m_goto (tgt := 4) hC dX5_isRing_105 (by decide) ?_
                      refine m_locals [1, 2, 3, 0] rfl ?_
                      exact ih4 (k + 1) v3_102 w (by omega) (by omega) (by omega) (by rw [hw, show j = k by omega, anyI, Bool.not_or, Bool.not_not, Bool.and_assoc, hy]; rfl)
                    · refine m_iload_n hC dX5_isRing_70 2 rfl ?_
                      refine m_if_eq (tgt := 94) hC dX5_isRing_71 (by decide) (by rw [hw]; exact bI_32 _) (fun c_71 => ?_) (fun c_71 => ?_)
                      · have bw := bI_0 (hw.symm.trans c_71)
                        refine m_iconst (v := 0) hC dX5_isRing_94 (by decide) ?_
                        refine m_istore_n hC dX5_isRing_95 (fun z9 => [(2, .int (z32 z9)), (0, .ref (g.2.2 18)), (1, .int (z32 x)), (3, .int (z32 y)), (4, .int (z32 z))]) (by decide) (fun _ => rfl) (fun v2_95 hv2_95 => ?_)
                        refine m_iinc hC dX5_isRing_96 4 rfl (fun z9 => [(4, .int (z32 z9)), (2, .int (z32 v2_95)), (0, .ref (g.2.2 18)), (1, .int (z32 x)), (3, .int (z32 y))]) (by decide) (fun _ => rfl) (fun v4_96 hv4_96 => ?_)
                        refine m_goto (tgt := 64) hC dX5_isRing_99 (by decide) ?_
                        refine m_locals [2, 3, 1, 4, 0] rfl ?_
                        exact ih64 (j + 1) v4_96 v2_95 (by omega) (by omega) (by omega) (by rw [hv2_95, anyI, Bool.not_or, ← Bool.and_assoc, bw, ← hz]; first | rfl | (rw [decide_eq_true c_87]; rfl) | (rw [decide_eq_false c_87]; rfl))
                      · have bw := bI_1 (fun q => c_71 (hw.trans q))
                        refine m_aload_n hC dX5_isRing_74 0 rfl ?_
                        refine m_getR (o := 18) (j := 18) (a := 31) (CN := RX5) (T := TX5) (N := 19) hC iX5_isRing_5 fX5_isRing_51 rfl dX5_isRing_75 rfl rfl (by decide) rfl ?_
                        refine m_iload hC dX5_isRing_78 4 rfl ?_
                        refine m_iaload (o := 31) (n := 5) hC rfl dX5_isRing_80 (by omega) (by omega) (by decide) ?_
                        refine m_aload_n hC dX5_isRing_81 0 rfl ?_
                        refine m_getR (o := 18) (j := 18) (a := 31) (CN := RX5) (T := TX5) (N := 19) hC iX5_isRing_5 fX5_isRing_51 rfl dX5_isRing_82 rfl rfl (by decide) rfl ?_
                        refine m_iload_n hC dX5_isRing_85 3 rfl ?_
                        refine m_iaload (o := 31) (n := 5) hC rfl dX5_isRing_86 (by omega) (by omega) (by decide) ?_
                        refine m_icmp_eq (tgt := 94) hC dX5_isRing_87 (by decide) (by omega) (by omega) (fun c_87 => ?_) (fun c_87 => ?_)
                        · refine m_iconst (v := 0) hC dX5_isRing_94 (by decide) ?_
                          refine m_istore_n hC dX5_isRing_95 (fun z9 => [(2, .int (z32 z9)), (0, .ref (g.2.2 18)), (1, .int (z32 x)), (3, .int (z32 y)), (4, .int (z32 z))]) (by decide) (fun _ => rfl) (fun v2_95 hv2_95 => ?_)
                          refine m_iinc hC dX5_isRing_96 4 rfl (fun z9 => [(4, .int (z32 z9)), (2, .int (z32 v2_95)), (0, .ref (g.2.2 18)), (1, .int (z32 x)), (3, .int (z32 y))]) (by decide) (fun _ => rfl) (fun v4_96 hv4_96 => ?_)
                          refine m_goto (tgt := 64) hC dX5_isRing_99 (by decide) ?_
                          refine m_locals [2, 3, 1, 4, 0] rfl ?_
                          exact ih64 (j + 1) v4_96 v2_95 (by omega) (by omega) (by omega) (by rw [hv2_95, anyI, Bool.not_or, ← Bool.and_assoc, bw, ← hz]; first | rfl | (rw [decide_eq_true c_87]; rfl) | (rw [decide_eq_false c_87]; rfl))
                        · refine m_iconst (v := 1) hC dX5_isRing_90 (by decide) ?_
                          refine m_goto (tgt := 95) hC dX5_isRing_91 (by decide) ?_
                          refine m_istore_n hC dX5_isRing_95 (fun z9 => [(2, .int (z32 z9)), (0, .ref (g.2.2 18)), (1, .int (z32 x)), (3, .int (z32 y)), (4, .int (z32 z))]) (by decide) (fun _ => rfl) (fun v2_95 hv2_95 => ?_)
                          refine m_iinc hC dX5_isRing_96 4 rfl (fun z9 => [(4, .int (z32 z9)), (2, .int (z32 v2_95)), (0, .ref (g.2.2 18)), (1, .int (z32 x)), (3, .int (z32 y))]) (by decide) (fun _ => rfl) (fun v4_96 hv4_96 => ?_)
                          refine m_goto (tgt := 64) hC dX5_isRing_99 (by decide) ?_
                          refine m_locals [2, 3, 1, 4, 0] rfl ?_
                          exact ih64 (j + 1) v4_96 v2_95 (by omega) (by omega) (by omega) (by rw [hv2_95, anyI, Bool.not_or, ← Bool.and_assoc, bw, ← hz]; first | rfl | (rw [decide_eq_true c_87]; rfl) | (rw [decide_eq_false c_87]; rfl))
                refine m_locals [2, 3, 1, 4, 0] rfl ?_
                exact L64 6 0 v4_62 v2_60 (by omega) (by omega) (by omega) (by rw [hv2_60, bv]; first | rfl | (rw [hO0]; rfl))
  refine m_locals [2, 3, 1, 0] rfl ?_
  exact L4 6 0 v3_3 v2_1 (by omega) (by omega) (by omega) (by rw [hv2_1]; rfl)
theorem iX5_laysRing_5 : ∀ w ∈ wsX50, w ∈ wsX5_laysRing := by decide +kernel
theorem fX5_laysRing_51 : Cond.fieldLink RX5 51 "MutualledgerModel" "row" "[I" ∈ wsX5_laysRing := by decide +kernel
theorem fX5_laysRing_57 : Cond.fieldLink RX5 57 "MutualledgerModel" "joined" "I" ∈ wsX5_laysRing := by decide +kernel
set_option maxHeartbeats 4000000 in
set_option maxRecDepth 100000 in
theorem c_X5_laysRing {g : mG} {S : Mem} {m : Nat} {x : Int} (hx : x = m) (hm : 2 ≤ m ∧ m ≤ 5) (hr : ∀ k, -1 ≤ S 31 k ∧ S 31 k ≤ 8) (hg : RgR S) (hok : Ok (S 20)) (hf : Fz (S 20) (S 21)) (hz : ∀ i j : Int, 0 ≤ i → i < 8 → 0 ≤ j → j < 8 → (S 18 1 ≤ i ∨ S 18 1 ≤ j) → GR S i j = false) (l : Launch) : Does l yX5_laysRing wsX5_laysRing ({ frames := 3, cells := 0, slots := 0, locals := 67 } : Room) g [.ref (g.2.2 18), .int (z32 x)] S (PIx (fun v S' => lyP S m v S')) := by
  refine Does.of (cc := cX5_laysRing) (maxL := 3) (ret := (some .boolean)) (own := RX5) (by decide) rfl rfl (Nat.le_of_ble_eq_true rfl) ?_
  intro C hC hR
  show MW C g 3 (0, 0) 0 [(0, .ref (g.2.2 18)), (1, .int (z32 x))] [] S
  obtain ⟨r1, r2, r3, r4, r5, r6, r7⟩ := id hg
  refine m_iconst (v := 0) hC dX5_laysRing_0 (by decide) ?_
  refine m_istore_n hC dX5_laysRing_1 (fun z9 => [(2, .int (z32 z9)), (0, .ref (g.2.2 18)), (1, .int (z32 x))]) (by decide) (fun _ => rfl) (fun v2_1 hv2_1 => ?_)
  refine m_aload_n hC dX5_laysRing_2 1 rfl ?_
  refine m_getR (o := 18) (j := 18) (a := 31) (CN := RX5) (T := TX5) (N := 19) hC iX5_laysRing_5 fX5_laysRing_51 rfl dX5_laysRing_3 rfl rfl (by decide) rfl ?_
  refine m_iconst (v := 0) hC dX5_laysRing_6 (by decide) ?_
  refine m_iconst (v := -1) hC dX5_laysRing_7 (by decide) ?_
  refine m_iastore (o := 31) (n := 5) hC rfl dX5_laysRing_8 (by omega) (by omega) (by decide) ?_
  have L9 : ∀ (n9 : Nat) (n : Nat) (q : Int) (S1 : Mem), mu (S1 31) n < (n9 : Int) → q = (n : Int) - 1 → lyI S m n S1 → MW C g 3 (0, 0) 9 [(0, .ref (g.2.2 18)), (1, .int (z32 x)), (2, .int (z32 q))] [] S1 := by
    intro n9
    induction n9 with
    | zero => intros; exfalso; rename_i n q S1 h0 h1 h2; have h3 := mu_nn (lyI_mem h2).2.2.2.1 n; omega
    | succ n9 ih9 =>
      intro n q S1 hm9 hp hI
      have hm5 := lyI_mem hI
      have hrq := hm5.2.2.2.1 ((n : Int) - 1)
      refine m_iload_n hC dX5_laysRing_9 2 rfl ?_
      refine m_if_lt (tgt := 80) hC dX5_laysRing_10 (by decide) (by omega) (fun c_10 => ?_) (fun c_10 => ?_)
      · refine m_iconst (v := 0) hC dX5_laysRing_80 (by decide) ?_
        refine m_iretx hC hR (Or.inr ⟨rfl, Or.inl rfl⟩) dX5_laysRing_81 ⟨Nat.le_of_ble_eq_true rfl, Nat.le_of_ble_eq_true rfl⟩ ?_
        exact lyI_end (by rw [show (0 : Nat) = n by omega]; exact hI)
      · have hv : lyS n S1 31 q = S1 31 ((n : Int) - 1) + 1 := by rw [lyS_row, hp, up_same]
        have hj : (lyS n S1) 18 1 = S 18 1 := by show S1 18 1 = _; rw [hm5.2.2.1]
        refine m_aload_n hC dX5_laysRing_13 0 rfl ?_
        refine m_getR (o := 18) (j := 18) (a := 31) (CN := RX5) (T := TX5) (N := 19) hC iX5_laysRing_5 fX5_laysRing_51 rfl dX5_laysRing_14 rfl rfl (by decide) rfl ?_
        refine m_iload_n hC dX5_laysRing_17 2 rfl ?_
        refine m_dup2 hC dX5_laysRing_18 rfl rfl ?_
        refine m_iaload (o := 31) (n := 5) hC rfl dX5_laysRing_19 (by omega) (by omega) (by decide) ?_
        refine m_iconst (v := 1) hC dX5_laysRing_20 (by decide) ?_
        refine m_iadd hC dX5_laysRing_21 ?_
        refine m_iastore (o := 31) (n := 5) hC rfl dX5_laysRing_22 (by omega) (by omega) (by decide) ?_
        rw [show mset S1 31 q (S1 31 q + 1) = lyS n S1 by rw [hp]; rfl]
        refine m_aload_n hC dX5_laysRing_23 0 rfl ?_
        refine m_getR (o := 18) (j := 18) (a := 31) (CN := RX5) (T := TX5) (N := 19) hC iX5_laysRing_5 fX5_laysRing_51 rfl dX5_laysRing_24 rfl rfl (by decide) rfl ?_
        refine m_iload_n hC dX5_laysRing_27 2 rfl ?_
        refine m_iaload (o := 31) (n := 5) hC rfl dX5_laysRing_28 (by omega) (by omega) (by decide) ?_
        refine m_aload_n hC dX5_laysRing_29 0 rfl ?_
        refine m_getI (o := 18) (j := 1) (ji := 1) (CN := RX5) (T := TX5) (N := 19) hC iX5_laysRing_5 fX5_laysRing_57 rfl dX5_laysRing_30 rfl rfl (by decide) rfl rfl ?_
        refine m_icmp_ne (tgt := 42) hC dX5_laysRing_33 (by decide) (by rw [hv]; omega) (by rw [hj]; omega) (fun c_33 => ?_) (fun c_33 => ?_)
        · have hyN : S1 31 ((n : Int) - 1) + 1 ≠ S 18 1 := by rw [← hv, ← hj]; exact c_33
          have hyr := ly_rng hI (by omega) r1 hyN
          have hok1 : Ok ((lyS n S1) 20) := by show Ok (S1 20); rw [hm5.1]; exact hok
          have hf1 : Fz ((lyS n S1) 20) ((lyS n S1) 21) := by show Fz (S1 20) (S1 21); rw [hm5.1, hm5.2.1]; exact hf
          refine m_aload_n hC dX5_laysRing_42 0 rfl ?_
          refine m_iload_n hC dX5_laysRing_43 2 rfl ?_
          refine m_callVi (n := 1) hC (c_X5_canBegin (p := n - 1) (by omega) (by omega) hyr.2 (fun k a b => hyr.1 k a (by omega)) hok1 hf1) gX5_laysRing_X5_canBegin rfl dX5_laysRing_44 rfl rfl (by decide +kernel) ⟨Nat.le_of_ble_eq_true rfl, Nat.le_of_ble_eq_true rfl⟩ rfl (Nat.le_of_ble_eq_true rfl) ⟨Nat.le_of_ble_eq_true rfl, Nat.le_of_ble_eq_true rfl⟩ rfl ?_
          refine m_if_eq (tgt := 9) hC dX5_laysRing_47 (by decide) (bI_32 _) (fun c_47 => ?_) (fun c_47 => ?_)
          · have b_47 := bI_0 c_47
            have hB := ly_skip hI (by omega) r1 hyN (lyV_no hI (by omega) b_47)
            obtain ⟨n1, hn1, hI1, hmu1⟩ : ∃ n1 : Nat, q = (n1 : Int) - 1 ∧ lyI S m n1 (lyS n S1) ∧ mu ((lyS n S1) 31) n1 < mu (S1 31) n := ⟨n, by omega, hB.1, hB.2⟩
            refine m_locals [0, 1, 2] rfl ?_
            exact ih9 n1 q _ (by omega) (by omega) (hI1)
          · have b_47 := bI_1 c_47
            refine m_iload_n hC dX5_laysRing_50 2 rfl ?_
            refine m_iload_n hC dX5_laysRing_51 1 rfl ?_
            refine m_iconst (v := 1) hC dX5_laysRing_52 (by decide) ?_
            refine m_isub hC dX5_laysRing_53 ?_
            refine m_icmp_ne (tgt := 67) hC dX5_laysRing_54 (by decide) (by omega) (by omega) (fun c_54 => ?_) (fun c_54 => ?_)
            · have hB := ly_push hI (by omega) (by omega) hm.2 r1 hyN b_47
              refine m_iinc hC dX5_laysRing_67 2 rfl (fun z9 => [(2, .int (z32 z9)), (0, .ref (g.2.2 18)), (1, .int (z32 x))]) (by decide) (fun _ => rfl) (fun v2_67 hv2_67 => ?_)
              refine m_aload_n hC dX5_laysRing_70 1 rfl ?_
              refine m_getR (o := 18) (j := 18) (a := 31) (CN := RX5) (T := TX5) (N := 19) hC iX5_laysRing_5 fX5_laysRing_51 rfl dX5_laysRing_71 rfl rfl (by decide) rfl ?_
              refine m_iload_n hC dX5_laysRing_74 0 rfl ?_
              refine m_iconst (v := -1) hC dX5_laysRing_75 (by decide) ?_
              refine m_iastore (o := 31) (n := 5) hC rfl dX5_laysRing_76 (by omega) (by omega) (by decide) ?_
              rw [show mset (lyS n S1) 31 v2_67 (-1) = mset (lyS n S1) 31 n (-1) by rw [show v2_67 = (n : Int) by omega]]
              obtain ⟨n1, hn1, hI1, hmu1⟩ : ∃ n1 : Nat, v2_67 = (n1 : Int) - 1 ∧ lyI S m n1 (mset (lyS n S1) 31 n (-1)) ∧ mu ((mset (lyS n S1) 31 n (-1)) 31) n1 < mu (S1 31) n := ⟨n + 1, by omega, hB.1, hB.2⟩
              refine m_goto (tgt := 9) hC dX5_laysRing_77 (by decide) ?_
              refine m_locals [1, 2, 0] rfl ?_
              exact ih9 n1 v2_67 _ (by omega) (by omega) (hI1)
            · have hnm : n = m := by omega
              have hRg := lyS_ring (S := S) (m := m) (S1 := S1) (hnm ▸ hI) hm.1 r1 (hnm ▸ hyN) (hnm ▸ b_47)
              rw [← hnm] at hRg
              refine m_aload_n hC dX5_laysRing_57 0 rfl ?_
              refine m_iload_n hC dX5_laysRing_58 1 rfl ?_
              refine m_callVi (n := 1) hC (c_X5_isRing (m := m) hx hm hyr.2 (fun k a b => hyr.1 k a (by omega)) hok1 hf1) gX5_laysRing_X5_isRing rfl dX5_laysRing_59 rfl rfl (by decide +kernel) ⟨Nat.le_of_ble_eq_true rfl, Nat.le_of_ble_eq_true rfl⟩ rfl (Nat.le_of_ble_eq_true rfl) ⟨Nat.le_of_ble_eq_true rfl, Nat.le_of_ble_eq_true rfl⟩ rfl ?_
              refine m_if_eq (tgt := 9) hC dX5_laysRing_62 (by decide) (bI_32 _) (fun c_62 => ?_) (fun c_62 => ?_)
              · have b_62 := bI_0 c_62
                have hB := hRg.2 (by rw [hnm] at b_62 ⊢; exact b_62)
                have hB2 := hB.2
                have hB1 : lyI S m n (lyS n S1) := by rw [hnm] at hB ⊢; exact hB.1
                obtain ⟨n1, hn1, hI1, hmu1⟩ : ∃ n1 : Nat, q = (n1 : Int) - 1 ∧ lyI S m n1 (lyS n S1) ∧ mu ((lyS n S1) 31) n1 < mu (S1 31) n := ⟨n, by omega, hB1, hB2⟩
                refine m_locals [0, 1, 2] rfl ?_
                exact ih9 n1 q _ (by omega) (by omega) (hI1)
              · have b_62 := bI_1 c_62
                refine m_iconst (v := 1) hC dX5_laysRing_65 (by decide) ?_
                refine m_iretx hC hR (Or.inr ⟨rfl, Or.inr rfl⟩) dX5_laysRing_66 ⟨Nat.le_of_ble_eq_true rfl, Nat.le_of_ble_eq_true rfl⟩ ?_
                rw [← hnm] at b_62 ⊢; exact hRg.1 b_62
        · have hB := ly_back hI hm.1 (by omega) r1 hz (by rw [← hv, ← hj]; exact Decidable.of_not_not c_33)
          refine m_iinc hC dX5_laysRing_36 2 rfl (fun z9 => [(2, .int (z32 z9)), (0, .ref (g.2.2 18)), (1, .int (z32 x))]) (by decide) (fun _ => rfl) (fun v2_36 hv2_36 => ?_)
          obtain ⟨n1, hn1, hI1, hmu1⟩ : ∃ n1 : Nat, v2_36 = (n1 : Int) - 1 ∧ lyI S m n1 (lyS n S1) ∧ mu ((lyS n S1) 31) n1 < mu (S1 31) n := ⟨n - 1, by omega, hB.1, hB.2⟩
          refine m_goto (tgt := 9) hC dX5_laysRing_39 (by decide) ?_
          refine m_locals [1, 2, 0] rfl ?_
          exact ih9 n1 v2_36 _ (by omega) (by omega) (hI1)
  refine m_locals [1, 2, 0] rfl ?_
  exact L9 100000 1 v2_1 _ (by show mu (mset S 31 0 (-1) 31) 1 < _; rw [mset_mput, mput_same]; show 0 + (8 - up (S 31) 0 (-1) 0) * wt 0 < _; rw [up_same]; decide) (by omega) (lyI_0 hm.1 hr r1.1)
theorem iX5_nets_5 : ∀ w ∈ wsX50, w ∈ wsX5_nets := by decide +kernel
theorem fX5_nets_51 : Cond.fieldLink RX5 51 "MutualledgerModel" "row" "[I" ∈ wsX5_nets := by decide +kernel
theorem fX5_nets_48 : Cond.fieldLink RX5 48 "MutualledgerModel" "ring" "[I" ∈ wsX5_nets := by decide +kernel
theorem fX5_nets_127 : Cond.fieldLink RX5 127 "MutualledgerModel" "rings" "I" ∈ wsX5_nets := by decide +kernel
theorem fX5_nets_13 : Cond.fieldLink RX5 13 "MutualledgerModel" "owes" "[I" ∈ wsX5_nets := by decide +kernel
set_option maxHeartbeats 4000000 in
set_option maxRecDepth 100000 in
theorem c_X5_nets {g : mG} {S : Mem} (hr : ∀ k, -1 ≤ S 31 k ∧ S 31 k ≤ 8) (hg : RgR S) (hok : OkD (S 20)) (hf : Fz (S 20) (S 21)) (hz : ∀ i j : Int, 0 ≤ i → i < 8 → 0 ≤ j → j < 8 → (S 18 1 ≤ i ∨ S 18 1 ≤ j) → GR S i j = false) (l : Launch) : Does l yX5_nets wsX5_nets ({ frames := 4, cells := 0, slots := 0, locals := 89 } : Room) g [.ref (g.2.2 18)] S (PIx (fun v S' => neP S v S')) := by
  refine Does.of (cc := cX5_nets) (maxL := 4) (ret := (some .boolean)) (own := RX5) (by decide) rfl rfl (Nat.le_of_ble_eq_true rfl) ?_
  intro C hC hR
  show MW C g 4 (0, 0) 0 [(0, .ref (g.2.2 18))] [] S
  obtain ⟨r1, r2, r3, r4, r5, r6, r7⟩ := id hg
  refine m_iconst (v := 2) hC dX5_nets_0 (by decide) ?_
  refine m_istore_n hC dX5_nets_1 (fun z9 => [(1, .int (z32 z9)), (0, .ref (g.2.2 18))]) (by decide) (fun _ => rfl) (fun v1_1 hv1_1 => ?_)
  have L2 : ∀ (n2 : Nat) (z : Int) (S1 : Mem), 6 - z < (n2 : Int) → 2 ≤ z → z ≤ 6 → neI S z S1 → MW C g 4 (0, 0) 2 [(0, .ref (g.2.2 18)), (1, .int (z32 z))] [] S1 := by
    intro n2
    induction n2 with
    | zero => intros; exfalso; omega
    | succ n2 ih2 =>
      intro z S1 hm2 hz1 hz2 hI
      have hm := neI_mem hI
      have hok1 : OkD (S1 20) := by rw [hm.1]; exact hok
      have hf1 : Fz (S1 20) (S1 21) := by rw [hm.1, hm.2.1]; exact hf
      have hz9 : ∀ i j : Int, 0 ≤ i → i < 8 → 0 ≤ j → j < 8 → (S1 18 1 ≤ i ∨ S1 18 1 ≤ j) → GR S1 i j = false := by rw [hm.2.2.1, hm.2.2.2.2.2.1]; exact hz
      refine m_iload_n hC dX5_nets_2 1 rfl ?_
      refine m_iconst (v := 5) hC dX5_nets_3 (by decide) ?_
      refine m_icmp_gt (tgt := 203) hC dX5_nets_4 (by decide) (by omega) (by omega) (fun c_4 => ?_) (fun c_4 => ?_)
      · refine m_iconst (v := 0) hC dX5_nets_203 (by decide) ?_
        refine m_iretx hC hR (Or.inr ⟨rfl, Or.inl rfl⟩) dX5_nets_204 ⟨Nat.le_of_ble_eq_true rfl, Nat.le_of_ble_eq_true rfl⟩ ?_
        exact neI_end (by rw [show (6 : Int) = z by omega]; exact hI)
      · refine m_aload_n hC dX5_nets_7 0 rfl ?_
        refine m_iload_n hC dX5_nets_8 1 rfl ?_
        refine m_callVix (n := 1) hC (c_X5_laysRing (m := z.toNat) (by omega) (by omega) hm.2.2.2.2.1 (hm.2.2.2.2.2.2 hg) hok1.1 hf1 hz9) gX5_nets_X5_laysRing rfl dX5_nets_9 rfl rfl (by decide +kernel) ⟨Nat.le_of_ble_eq_true rfl, Nat.le_of_ble_eq_true rfl⟩ rfl (Nat.le_of_ble_eq_true rfl) ⟨Nat.le_of_ble_eq_true rfl, Nat.le_of_ble_eq_true rfl⟩ rfl (fun v9 S2 hv9 => ?_)
        refine m_if_eq (tgt := 197) hC dX5_nets_12 (by decide) (by have := lyP_v hv9; omega) (fun c_12 => ?_) (fun c_12 => ?_)
        · refine m_iinc hC dX5_nets_197 1 rfl (fun z9 => [(1, .int (z32 z9)), (0, .ref (g.2.2 18))]) (by decide) (fun _ => rfl) (fun v1_197 hv1_197 => ?_)
          refine m_goto (tgt := 2) hC dX5_nets_200 (by decide) ?_
          refine m_locals [1, 0] rfl ?_
          exact ih2 v1_197 _ (by omega) (by omega) (by omega) (by rw [hv1_197]; rw [c_12] at hv9; exact neI_next hI (by omega) hv9)
        · rw [show v9 = 1 by have := lyP_v hv9; omega] at hv9
          obtain ⟨h, hS2, hrh, hfd, hph⟩ := neI_found hI (by omega) hv9
          have e31 : S2 31 = h := by rw [hS2]; rfl
          have e20 : S2 20 = S 20 := by rw [hS2]; rfl
          have e21 : S2 21 = S 21 := by rw [hS2]; rfl
          have e18 : S2 18 = S 18 := by rw [hS2]; rfl
          have e1816 : S2 18 16 = S 18 16 := by rw [e18]
          have hO : ∀ i j : Int, 0 ≤ i ∧ i < 9 → 0 ≤ j ∧ j < 9 → 0 ≤ S2 20 (ix i j) - S2 21 (ix i j) ∧ S2 20 (ix i j) - S2 21 (ix i j) ≤ 200000 := fun i j hi hj => by
            rw [e20, e21]
            have h1 := hok.1.ent hi hj
            have h3 := hf i j hi.1 hi.2 hj.1 hj.2
            omega
          have hq : ∀ k : Int, 0 ≤ k → k < z → 0 ≤ S2 31 k ∧ S2 31 k < 8 := by rw [e31]; exact hph
          have hq0 := hq 0 (by omega) (by omega)
          have hql := hq (z - 1) (by omega) (by omega)
          have hO0 := hO (S2 31 (z - 1)) (S2 31 0) (by omega) (by omega)
          refine m_aload_n hC dX5_nets_15 0 rfl ?_
          refine m_aload_n hC dX5_nets_16 0 rfl ?_
          refine m_getR (o := 18) (j := 18) (a := 31) (CN := RX5) (T := TX5) (N := 19) hC iX5_nets_5 fX5_nets_51 rfl dX5_nets_17 rfl rfl (by decide) rfl ?_
          refine m_iload_n hC dX5_nets_20 1 rfl ?_
          refine m_iconst (v := 1) hC dX5_nets_21 (by decide) ?_
          refine m_isub hC dX5_nets_22 ?_
          refine m_iaload (o := 31) (n := 5) hC rfl dX5_nets_23 (by omega) (by omega) (by decide) ?_
          refine m_aload_n hC dX5_nets_24 0 rfl ?_
          refine m_getR (o := 18) (j := 18) (a := 31) (CN := RX5) (T := TX5) (N := 19) hC iX5_nets_5 fX5_nets_51 rfl dX5_nets_25 rfl rfl (by decide) rfl ?_
          refine m_iconst (v := 0) hC dX5_nets_28 (by decide) ?_
          refine m_iaload (o := 31) (n := 5) hC rfl dX5_nets_29 (by omega) (by omega) (by decide) ?_
          refine m_callVi (n := 2) hC (c_X5_free (by omega) (by omega)) gX5_nets_X5_free rfl dX5_nets_30 rfl rfl (by decide +kernel) ⟨Nat.le_of_ble_eq_true rfl, Nat.le_of_ble_eq_true rfl⟩ rfl (Nat.le_of_ble_eq_true rfl) ⟨Nat.le_of_ble_eq_true rfl, Nat.le_of_ble_eq_true rfl⟩ rfl ?_
          refine m_istore_n hC dX5_nets_33 (fun z9 => [(2, .int (z32 z9)), (0, .ref (g.2.2 18)), (1, .int (z32 z))]) (by decide) (fun _ => rfl) (fun v2_33 hv2_33 => ?_)
          refine m_iconst (v := 0) hC dX5_nets_34 (by decide) ?_
          refine m_istore_n hC dX5_nets_35 (fun z9 => [(3, .int (z32 z9)), (2, .int (z32 v2_33)), (0, .ref (g.2.2 18)), (1, .int (z32 z))]) (by decide) (fun _ => rfl) (fun v3_35 hv3_35 => ?_)
          have L36 : ∀ (n36 : Nat) (k : Nat) (y : Int) (v : Int), z - y < (n36 : Int) → y = (k : Int) → (k : Int) + 1 ≤ z → v = lsL (opF (S 20) (S 21)) (opF (S 20) (S 21) (h (z - 1)) (h 0)) (pl h (k + 1)) → 0 ≤ v → v ≤ 200000 → MW C g 4 (0, 0) 36 [(0, .ref (g.2.2 18)), (1, .int (z32 z)), (2, .int (z32 v)), (3, .int (z32 y))] [] S2 := by
            intro n36
            induction n36 with
            | zero => intros; exfalso; omega
            | succ n36 ih36 =>
              intro k y v hm36 hy hk hv hv1 hv2
              refine m_iload_n hC dX5_nets_36 3 rfl ?_
              refine m_iload_n hC dX5_nets_37 1 rfl ?_
              refine m_iconst (v := 1) hC dX5_nets_38 (by decide) ?_
              refine m_isub hC dX5_nets_39 ?_
              refine m_icmp_ge (tgt := 72) hC dX5_nets_40 (by decide) (by omega) (by omega) (fun c_40 => ?_) (fun c_40 => ?_)
              · have hvR : v = lsR (S 20) (S 21) (pl h z.toNat) := by rw [lsR_pl (by omega), hv, show k + 1 = z.toNat by omega, show ((z.toNat : Nat) : Int) = z by omega]
                refine m_aload_n hC dX5_nets_72 0 rfl ?_
                refine m_getR (o := 18) (j := 17) (a := 30) (CN := RX5) (T := TX5) (N := 19) hC iX5_nets_5 fX5_nets_48 rfl dX5_nets_73 rfl rfl (by decide) rfl ?_
                refine m_bipush (v := 7) hC dX5_nets_76 (by decide) ?_
                refine m_aload_n hC dX5_nets_78 0 rfl ?_
                refine m_getI (o := 18) (j := 16) (ji := 16) (CN := RX5) (T := TX5) (N := 19) hC iX5_nets_5 fX5_nets_127 rfl dX5_nets_79 rfl rfl (by decide) rfl rfl ?_
                refine m_imul hC dX5_nets_82 ?_
                refine m_iload_n hC dX5_nets_83 1 rfl ?_
                refine m_iastore (o := 30) (n := 700) hC rfl dX5_nets_84 (by omega) (by omega) (by decide) ?_
                refine m_aload_n hC dX5_nets_85 0 rfl ?_
                refine m_getR (o := 18) (j := 17) (a := 30) (CN := RX5) (T := TX5) (N := 19) hC iX5_nets_5 fX5_nets_48 rfl dX5_nets_86 rfl rfl (by decide) rfl ?_
                refine m_bipush (v := 7) hC dX5_nets_89 (by decide) ?_
                refine m_aload_n hC dX5_nets_91 0 rfl ?_
                refine m_getI (o := 18) (j := 16) (ji := 16) (CN := RX5) (T := TX5) (N := 19) hC iX5_nets_5 fX5_nets_127 rfl dX5_nets_92 rfl rfl (by decide) rfl rfl ?_
                refine m_imul hC dX5_nets_95 ?_
                refine m_iconst (v := 1) hC dX5_nets_96 (by decide) ?_
                refine m_iadd hC dX5_nets_97 ?_
                rw [show mset S2 30 (7 * S2 18 16) z 18 16 = S2 18 16 from rfl]
                refine m_iload_n hC dX5_nets_98 2 rfl ?_
                refine m_iastore (o := 30) (n := 700) hC rfl dX5_nets_99 (by omega) (by omega) (by decide) ?_
                refine m_iconst (v := 0) hC dX5_nets_100 (by decide) ?_
                refine m_istore_n hC dX5_nets_101 (fun z9 => [(3, .int (z32 z9)), (0, .ref (g.2.2 18)), (1, .int (z32 z)), (2, .int (z32 v))]) (by decide) (fun _ => rfl) (fun v3_101 hv3_101 => ?_)
                have L102 : ∀ (n102 : Nat) (y2 : Int) (S3 : Mem), 5 - y2 < (n102 : Int) → 0 ≤ y2 → y2 ≤ 5 → nrI S2 h z v y2 S3 → MW C g 4 (0, 0) 102 [(0, .ref (g.2.2 18)), (1, .int (z32 z)), (2, .int (z32 v)), (3, .int (z32 y2))] [] S3 := by
                  intro n102
                  induction n102 with
                  | zero => intros; exfalso; omega
                  | succ n102 ih102 =>
                    intro y2 S3 hm102 hy21 hy22 hN
                    have f18 : S3 18 = S2 18 := by obtain ⟨q, rfl, -⟩ := hN; rfl
                    have f31 : S3 31 = S2 31 := by obtain ⟨q, rfl, -⟩ := hN; rfl
                    have f20 : S3 20 = S2 20 := by obtain ⟨q, rfl, -⟩ := hN; rfl
                    have g18 : S3 18 16 = S 18 16 := by rw [f18, e18]
                    refine m_iload_n hC dX5_nets_102 3 rfl ?_
                    refine m_iconst (v := 5) hC dX5_nets_103 (by decide) ?_
                    refine m_icmp_ge (tgt := 144) hC dX5_nets_104 (by decide) (by omega) (by omega) (fun c_104 => ?_) (fun c_104 => ?_)
                    · refine m_iconst (v := 0) hC dX5_nets_144 (by decide) ?_
                      refine m_istore_n hC dX5_nets_145 (fun z9 => [(3, .int (z32 z9)), (0, .ref (g.2.2 18)), (1, .int (z32 z)), (2, .int (z32 v))]) (by decide) (fun _ => rfl) (fun v3_145 hv3_145 => ?_)
                      have L146 : ∀ (n146 : Nat) (j : Nat) (w : Int) (S4 : Mem), z - w < (n146 : Int) → w = (j : Int) → (j : Int) ≤ z → S4 = mput S3 20 (nwF (S 20) v h z.toNat j) → MW C g 4 (0, 0) 146 [(0, .ref (g.2.2 18)), (1, .int (z32 z)), (2, .int (z32 v)), (3, .int (z32 w))] [] S4 := by
                        intro n146
                        induction n146 with
                        | zero => intros; exfalso; omega
                        | succ n146 ih146 =>
                          intro j w S4 hm146 hw hj hS4
                          have g31 : S4 31 = h := by rw [hS4]; show S3 31 = h; rw [f31, e31]
                          have g20 : S4 18 16 = S 18 16 := by rw [hS4]; exact g18
                          have hnx : w < z → 0 ≤ nxt z w ∧ nxt z w < z := fun q => nxt_in (by omega) q
                          refine m_iload_n hC dX5_nets_146 3 rfl ?_
                          refine m_iload_n hC dX5_nets_147 1 rfl ?_
                          refine m_icmp_ge (tgt := 185) hC dX5_nets_148 (by decide) (by omega) (by omega) (fun c_148 => ?_) (fun c_148 => ?_)
                          · refine m_aload_n hC dX5_nets_185 0 rfl ?_
                            refine m_dup hC dX5_nets_186 rfl ?_
                            refine m_getI (o := 18) (j := 16) (ji := 16) (CN := RX5) (T := TX5) (N := 19) hC iX5_nets_5 fX5_nets_127 rfl dX5_nets_187 rfl rfl (by decide) rfl rfl ?_
                            refine m_iconst (v := 1) hC dX5_nets_190 (by decide) ?_
                            refine m_iadd hC dX5_nets_191 ?_
                            refine m_putI (o := 18) (j := 16) (ji := 16) (CN := RX5) (T := TX5) (N := 19) hC iX5_nets_5 fX5_nets_127 rfl dX5_nets_192 rfl rfl (by decide) rfl tyX5 tyX5_ok nmX5 rfl (by decide +kernel) rfl ?_
                            refine m_iconst (v := 1) hC dX5_nets_195 (by decide) ?_
                            refine m_iretx hC hR (Or.inr ⟨rfl, Or.inr rfl⟩) dX5_nets_196 ⟨Nat.le_of_ble_eq_true rfl, Nat.le_of_ble_eq_true rfl⟩ ?_
                            exact neP_1 (m := z.toNat) (z := z) (v := v) (S3 := S3) hS2 hrh hfd (by omega) (by omega) (by omega) hvR (by rw [show (5 : Int) = y2 by omega]; exact hN) (by rw [hS4, show j = z.toNat by omega])
                          · refine m_aload_n hC dX5_nets_151 0 rfl ?_
                            refine m_getR (o := 18) (j := 3) (a := 20) (CN := RX5) (T := TX5) (N := 19) hC iX5_nets_5 fX5_nets_13 rfl dX5_nets_152 rfl rfl (by decide) rfl ?_
                            refine m_aload_n hC dX5_nets_155 0 rfl ?_
                            refine m_getR (o := 18) (j := 18) (a := 31) (CN := RX5) (T := TX5) (N := 19) hC iX5_nets_5 fX5_nets_51 rfl dX5_nets_156 rfl rfl (by decide) rfl ?_
                            refine m_iload_n hC dX5_nets_159 3 rfl ?_
                            refine m_iaload (o := 31) (n := 5) hC rfl dX5_nets_160 (by omega) (by omega) (by decide) ?_
                            refine m_aload_n hC dX5_nets_161 0 rfl ?_
                            refine m_getR (o := 18) (j := 18) (a := 31) (CN := RX5) (T := TX5) (N := 19) hC iX5_nets_5 fX5_nets_51 rfl dX5_nets_162 rfl rfl (by decide) rfl ?_
                            refine m_iload_n hC dX5_nets_165 3 rfl ?_
                            refine m_iconst (v := 1) hC dX5_nets_166 (by decide) ?_
                            refine m_iadd hC dX5_nets_167 ?_
                            refine m_iload_n hC dX5_nets_168 1 rfl ?_
                            refine m_irem hC dX5_nets_169 (by omega) (by omega) ?_
                            rw [nxt_rem (m := z) (k := w) (by omega) (by omega)]
                            have hnw := hnx (by omega)
                            refine m_iaload (o := 31) (n := 5) hC rfl dX5_nets_170 (by omega) (by omega) (by decide) ?_
                            have hp1 := hph w (by omega) (by omega)
                            have hp2 := hph (nxt z w) (by omega) (by omega)
                            rw [← g31] at hp1 hp2
                            refine m_callSi (n := 2) hC (c_X5_at) gX5_nets_X5_at rfl dX5_nets_171 (by decide +kernel) ⟨Nat.le_of_ble_eq_true rfl, Nat.le_of_ble_eq_true rfl⟩ rfl (Nat.le_of_ble_eq_true rfl) ⟨Nat.le_of_ble_eq_true rfl, Nat.le_of_ble_eq_true rfl⟩ rfl ?_
                            refine m_dup2 hC dX5_nets_174 rfl rfl ?_
                            refine m_iaload (o := 20) (n := 81) hC rfl dX5_nets_175 (ix_lo (by omega) (by omega)) (ix_hi (by omega) (by omega)) (by decide) ?_
                            refine m_iload_n hC dX5_nets_176 2 rfl ?_
                            refine m_isub hC dX5_nets_177 ?_
                            refine m_iastore (o := 20) (n := 81) hC rfl dX5_nets_178 (ix_lo (by omega) (by omega)) (ix_hi (by omega) (by omega)) (by decide) ?_
                            refine m_iinc hC dX5_nets_179 3 rfl (fun z9 => [(3, .int (z32 z9)), (0, .ref (g.2.2 18)), (1, .int (z32 z)), (2, .int (z32 v))]) (by decide) (fun _ => rfl) (fun v3_179 hv3_179 => ?_)
                            refine m_goto (tgt := 146) hC dX5_nets_182 (by decide) ?_
                            refine m_locals [1, 2, 3, 0] rfl ?_
                            exact ih146 (j + 1) v3_179 _ (by omega) (by omega) (by omega) (by rw [nwF_step (by omega), g31, mset_mput, hS4, mput_mput, mput_same, show ((z.toNat : Nat) : Int) = z by omega, ← hw]; rfl)
                      refine m_locals [1, 2, 3, 0] rfl ?_
                      exact L146 6 0 v3_145 _ (by omega) (by omega) (by omega) (by rw [show nwF (S 20) v h z.toNat 0 = S3 20 by rw [f20, e20]; unfold nwF; rw [if_pos (by omega)]; rfl, mput_self])
                    · refine m_aload_n hC dX5_nets_107 0 rfl ?_
                      refine m_getR (o := 18) (j := 17) (a := 30) (CN := RX5) (T := TX5) (N := 19) hC iX5_nets_5 fX5_nets_48 rfl dX5_nets_108 rfl rfl (by decide) rfl ?_
                      refine m_bipush (v := 7) hC dX5_nets_111 (by decide) ?_
                      refine m_aload_n hC dX5_nets_113 0 rfl ?_
                      refine m_getI (o := 18) (j := 16) (ji := 16) (CN := RX5) (T := TX5) (N := 19) hC iX5_nets_5 fX5_nets_127 rfl dX5_nets_114 rfl rfl (by decide) rfl rfl ?_
                      refine m_imul hC dX5_nets_117 ?_
                      refine m_iconst (v := 2) hC dX5_nets_118 (by decide) ?_
                      refine m_iadd hC dX5_nets_119 ?_
                      refine m_iload_n hC dX5_nets_120 3 rfl ?_
                      refine m_iadd hC dX5_nets_121 ?_
                      refine m_iload_n hC dX5_nets_122 3 rfl ?_
                      refine m_iload_n hC dX5_nets_123 1 rfl ?_
                      refine m_icmp_ge (tgt := 136) hC dX5_nets_124 (by decide) (by omega) (by omega) (fun c_124 => ?_) (fun c_124 => ?_)
                      · refine m_iconst (v := -1) hC dX5_nets_136 (by decide) ?_
                        refine m_iastore (o := 30) (n := 700) hC rfl dX5_nets_137 (by omega) (by omega) (by decide) ?_
                        refine m_iinc hC dX5_nets_138 3 rfl (fun z9 => [(3, .int (z32 z9)), (0, .ref (g.2.2 18)), (1, .int (z32 z)), (2, .int (z32 v))]) (by decide) (fun _ => rfl) (fun v3_138 hv3_138 => ?_)
                        refine m_goto (tgt := 102) hC dX5_nets_141 (by decide) ?_
                        refine m_locals [1, 2, 3, 0] rfl ?_
                        exact ih102 v3_138 _ (by omega) (by omega) (by omega) (by rw [hv3_138, f18]; first | exact nrI_step hN (by omega) (by rw [if_pos (by omega), f31, e31]) | exact nrI_step hN (by omega) (by rw [if_neg (by omega)]))
                      · refine m_aload_n hC dX5_nets_127 0 rfl ?_
                        refine m_getR (o := 18) (j := 18) (a := 31) (CN := RX5) (T := TX5) (N := 19) hC iX5_nets_5 fX5_nets_51 rfl dX5_nets_128 rfl rfl (by decide) rfl ?_
                        refine m_iload_n hC dX5_nets_131 3 rfl ?_
                        refine m_iaload (o := 31) (n := 5) hC rfl dX5_nets_132 (by omega) (by omega) (by decide) ?_
                        refine m_goto (tgt := 137) hC dX5_nets_133 (by decide) ?_
                        refine m_iastore (o := 30) (n := 700) hC rfl dX5_nets_137 (by omega) (by omega) (by decide) ?_
                        refine m_iinc hC dX5_nets_138 3 rfl (fun z9 => [(3, .int (z32 z9)), (0, .ref (g.2.2 18)), (1, .int (z32 z)), (2, .int (z32 v))]) (by decide) (fun _ => rfl) (fun v3_138 hv3_138 => ?_)
                        refine m_goto (tgt := 102) hC dX5_nets_141 (by decide) ?_
                        refine m_locals [1, 2, 3, 0] rfl ?_
                        exact ih102 v3_138 _ (by omega) (by omega) (by omega) (by rw [hv3_138, f18]; first | exact nrI_step hN (by omega) (by rw [if_pos (by omega), f31, e31]) | exact nrI_step hN (by omega) (by rw [if_neg (by omega)]))
                refine m_locals [1, 2, 3, 0] rfl ?_
                exact L102 6 v3_101 _ (by omega) (by omega) (by omega) (by rw [hv3_101]; exact nrI_0)
              · refine m_iload_n hC dX5_nets_43 2 rfl ?_
                refine m_aload_n hC dX5_nets_44 0 rfl ?_
                refine m_aload_n hC dX5_nets_45 0 rfl ?_
                refine m_getR (o := 18) (j := 18) (a := 31) (CN := RX5) (T := TX5) (N := 19) hC iX5_nets_5 fX5_nets_51 rfl dX5_nets_46 rfl rfl (by decide) rfl ?_
                refine m_iload_n hC dX5_nets_49 3 rfl ?_
                refine m_iaload (o := 31) (n := 5) hC rfl dX5_nets_50 (by omega) (by omega) (by decide) ?_
                refine m_aload_n hC dX5_nets_51 0 rfl ?_
                refine m_getR (o := 18) (j := 18) (a := 31) (CN := RX5) (T := TX5) (N := 19) hC iX5_nets_5 fX5_nets_51 rfl dX5_nets_52 rfl rfl (by decide) rfl ?_
                refine m_iload_n hC dX5_nets_55 3 rfl ?_
                refine m_iconst (v := 1) hC dX5_nets_56 (by decide) ?_
                refine m_iadd hC dX5_nets_57 ?_
                refine m_iaload (o := 31) (n := 5) hC rfl dX5_nets_58 (by omega) (by omega) (by decide) ?_
                have hq1 := hq y (by omega) (by omega)
                have hq2 := hq (y + 1) (by omega) (by omega)
                have hq3 := hO (S2 31 y) (S2 31 (y + 1)) (by omega) (by omega)
                refine m_callVi (n := 2) hC (c_X5_free (by omega) (by omega)) gX5_nets_X5_free rfl dX5_nets_59 rfl rfl (by decide +kernel) ⟨Nat.le_of_ble_eq_true rfl, Nat.le_of_ble_eq_true rfl⟩ rfl (Nat.le_of_ble_eq_true rfl) ⟨Nat.le_of_ble_eq_true rfl, Nat.le_of_ble_eq_true rfl⟩ rfl ?_
                refine m_callSi (n := 2) hC (c_X5_least (by omega) (by omega)) gX5_nets_X5_least rfl dX5_nets_62 (by decide +kernel) ⟨Nat.le_of_ble_eq_true rfl, Nat.le_of_ble_eq_true rfl⟩ rfl (Nat.le_of_ble_eq_true rfl) ⟨Nat.le_of_ble_eq_true rfl, Nat.le_of_ble_eq_true rfl⟩ rfl ?_
                refine m_istore_n hC dX5_nets_65 (fun z9 => [(2, .int (z32 z9)), (0, .ref (g.2.2 18)), (1, .int (z32 z)), (3, .int (z32 y))]) (by decide) (fun _ => rfl) (fun v2_65 hv2_65 => ?_)
                refine m_iinc hC dX5_nets_66 3 rfl (fun z9 => [(3, .int (z32 z9)), (2, .int (z32 v2_65)), (0, .ref (g.2.2 18)), (1, .int (z32 z))]) (by decide) (fun _ => rfl) (fun v3_66 hv3_66 => ?_)
                refine m_goto (tgt := 36) hC dX5_nets_69 (by decide) ?_
                refine m_locals [2, 3, 1, 0] rfl ?_
                exact ih36 (k + 1) v3_66 v2_65 (by omega) (by omega) (by omega) (by rw [lsL_pl (by omega), ← hv, hv2_65, e20, e21, e31, show (((k + 1 : Nat) : Int) - 1) = y by omega, show ((k + 1 : Nat) : Int) = y + 1 by omega]; rfl) (by rw [hv2_65]; have := mn_le v (S2 20 (ix (S2 31 y) (S2 31 (y + 1))) - S2 21 (ix (S2 31 y) (S2 31 (y + 1)))); omega) (by rw [hv2_65]; have := mn_le v (S2 20 (ix (S2 31 y) (S2 31 (y + 1))) - S2 21 (ix (S2 31 y) (S2 31 (y + 1)))); omega)
          refine m_locals [2, 3, 1, 0] rfl ?_
          exact L36 6 0 v3_35 v2_33 (by omega) (by omega) (by omega) (by rw [hv2_33, e20, e21, e31]; rfl) (by omega) (by omega)
  refine m_locals [1, 0] rfl ?_
  exact L2 5 v1_1 S (by omega) (by omega) (by omega) (by rw [hv1_1]; exact neI_0 hr)
