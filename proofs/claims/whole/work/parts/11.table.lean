/-! ===== tables ===== -/
/-- the object o is a table of R rows and Cn columns, its row of cells the cell a -/
def isTbl (o a : Nat) (R Cn : Int) : Prop := ∃ n : Nat, gds[o]? = some (.inl (2, [.inr (some R), .inr (some Cn), .inl a])) ∧ gds[a]? = some (.inr (.inl (0, n))) ∧ (n : Int) = R * Cn ∧ 0 < R ∧ R ≤ 100 ∧ 0 < Cn ∧ Cn ≤ 9
def tpl (R Cn r c : Int) : Int := if 0 ≤ r ∧ r < R ∧ 0 ≤ c ∧ c < Cn then r * Cn + c else -1
def tg (R Cn : Int) (f : Int → Int) (r c : Int) : Int := if 0 ≤ r ∧ r < R ∧ 0 ≤ c ∧ c < Cn then f (r * Cn + c) else 0
def ts (S : Mem) (a : Nat) (R Cn r c v : Int) : Mem := if 0 ≤ r ∧ r < R ∧ 0 ≤ c ∧ c < Cn then mset S a (r * Cn + c) v else S
def sI (f : Int → Int) : Nat → Int
  | 0 => 0
  | n + 1 => sI f n + f n
def tclr (a : Nat) (R Cn s : Int) (S : Mem) : Nat → Mem
  | 0 => S
  | n + 1 => ts (ts (tclr a R Cn s S n) a R Cn s n 0) a R Cn n s 0
theorem tbl_ix {R Cn r c : Int} (h1 : 0 ≤ r) (h2 : r < R) (h3 : 0 ≤ c) (h4 : c < Cn) (hR : R ≤ 100) (hC : Cn ≤ 9) : 0 ≤ r * Cn + c ∧ r * Cn + c < R * Cn ∧ R * Cn ≤ 900 := by
  have e1 : 0 ≤ r * Cn := Int.mul_nonneg h1 (by omega)
  have e2 : (r + 1) * Cn ≤ R * Cn := Int.mul_le_mul_of_nonneg_right (by omega) (by omega)
  have e3 : R * Cn ≤ 100 * Cn := Int.mul_le_mul_of_nonneg_right hR (by omega)
  rw [Int.add_mul, Int.one_mul] at e2
  omega
theorem tbl_sz {o a : Nat} {R Cn : Int} (hT : isTbl o a R Cn) : 0 < R * Cn ∧ R * Cn ≤ 900 := by
  obtain ⟨n, h1, h2, hn, hR1, hR2, hC1, hC2⟩ := hT
  have e1 := tbl_ix (r := 0) (c := 0) (Int.le_refl 0) hR1 (Int.le_refl 0) hC1 hR2 hC2
  rw [Int.zero_mul] at e1
  omega
theorem tpl_rng {o a : Nat} {R Cn r c : Int} (hT : isTbl o a R Cn) : -1 ≤ tpl R Cn r c ∧ tpl R Cn r c < R * Cn ∧ R * Cn ≤ 900 := by
  have h0 := tbl_sz hT
  obtain ⟨n, h1, h2, hn, hR1, hR2, hC1, hC2⟩ := hT
  unfold tpl
  split
  · rename_i h
    have := tbl_ix h.1 h.2.1 h.2.2.1 h.2.2.2 hR2 hC2
    omega
  · omega
theorem tg_tpl {R Cn r c : Int} {f : Int → Int} (hC : 0 < Cn) : tg R Cn f r c = if 0 ≤ tpl R Cn r c then f (tpl R Cn r c) else 0 := by
  unfold tg tpl
  split
  · rename_i h
    have : 0 ≤ r * Cn := Int.mul_nonneg h.1 (by omega)
    rw [if_pos (by omega)]
  · rw [if_neg (by omega)]
theorem ts_tpl {S : Mem} {a : Nat} {R Cn r c v : Int} (hC : 0 < Cn) : ts S a R Cn r c v = if 0 ≤ tpl R Cn r c then mset S a (tpl R Cn r c) v else S := by
  unfold ts tpl
  split
  · rename_i h
    have : 0 ≤ r * Cn := Int.mul_nonneg h.1 (by omega)
    rw [if_pos (by omega)]
  · rw [if_neg (by omega)]
theorem iX2_placeOf_2 : ∀ w ∈ wsX20, w ∈ wsX2_placeOf := by decide +kernel
theorem fX2_placeOf_24 : Cond.fieldLink RX2 24 "Mutualledger$Table" "columns" "I" ∈ wsX2_placeOf := by decide +kernel
theorem fX2_placeOf_20 : Cond.fieldLink RX2 20 "Mutualledger$Table" "rows" "I" ∈ wsX2_placeOf := by decide +kernel
set_option maxHeartbeats 4000000 in
set_option maxRecDepth 100000 in
theorem c_X2_placeOf {g : mG} {S : Mem} {o a : Nat} {R Cn : Int} (hT : isTbl o a R Cn) {r c : Int} (hr : -2147483648 ≤ r ∧ r < 2147483648) (hc : -2147483648 ≤ c ∧ c < 2147483648) (l : Launch) : Does l yX2_placeOf wsX2_placeOf ({ frames := 0, cells := 0, slots := 0, locals := 0 } : Room) g [.ref (g.2.2 o), .int (z32 r), .int (z32 c)] S (PI (tpl R Cn r c) S) := by
  refine Does.of (cc := cX2_placeOf) (maxL := 4) (ret := (some .int)) (own := RX2) (by decide) rfl rfl (Nat.le_of_ble_eq_true rfl) ?_
  intro C hC hR
  show MW C g 4 (0, 0) 0 [(0, .ref (g.2.2 o)), (1, .int (z32 r)), (2, .int (z32 c))] [] S
  obtain ⟨n, h1, h2, hn, hR1, hR2, hC1, hC2⟩ := id hT
  refine m_iload_n hC dX2_placeOf_0 1 rfl ?_
  refine m_if_lt (tgt := 28) hC dX2_placeOf_1 (by decide) (by omega) (fun c_1 => ?_) (fun c_1 => ?_)
  · refine m_iconst (v := 0) hC dX2_placeOf_28 (by decide) ?_
    refine m_istore_n hC dX2_placeOf_29 (fun z9 => [(3, .int (z32 z9)), (0, .ref (g.2.2 o)), (1, .int (z32 r)), (2, .int (z32 c))]) (by decide) (fun _ => rfl) (fun v3_29 hv3_29 => ?_)
    refine m_iload_n hC dX2_placeOf_30 0 rfl ?_
    refine m_if_eq (tgt := 45) hC dX2_placeOf_31 (by decide) (by omega) (fun c_31 => ?_) (fun c_31 => ?_)
    · refine m_iconst (v := -1) hC dX2_placeOf_45 (by decide) ?_
      refine m_ireti hC hR (Or.inl rfl) dX2_placeOf_46 ⟨Nat.le_of_ble_eq_true rfl, Nat.le_of_ble_eq_true rfl⟩ ?_ ?_
      · unfold tpl; split <;> omega
      · rfl
    · refine m_iload_n hC dX2_placeOf_34 2 rfl ?_
      refine m_aload_n hC dX2_placeOf_35 1 rfl ?_
      refine m_getK (o := o) (j := 1) (v := Cn) (CN := RX2) (T := TX2) (N := 3) hC iX2_placeOf_2 fX2_placeOf_24 rfl dX2_placeOf_36 h1 rfl (by decide) rfl ?_
      refine m_imul hC dX2_placeOf_39 ?_
      refine m_iload_n hC dX2_placeOf_40 3 rfl ?_
      refine m_iadd hC dX2_placeOf_41 ?_
      refine m_goto (tgt := 46) hC dX2_placeOf_42 (by decide) ?_
      refine m_ireti hC hR (Or.inl rfl) dX2_placeOf_46 ⟨Nat.le_of_ble_eq_true rfl, Nat.le_of_ble_eq_true rfl⟩ ?_ ?_
      · unfold tpl; split <;> omega
      · rfl
  · refine m_iload_n hC dX2_placeOf_4 1 rfl ?_
    refine m_aload_n hC dX2_placeOf_5 0 rfl ?_
    refine m_getK (o := o) (j := 0) (v := R) (CN := RX2) (T := TX2) (N := 3) hC iX2_placeOf_2 fX2_placeOf_20 rfl dX2_placeOf_6 h1 rfl (by decide) rfl ?_
    refine m_icmp_ge (tgt := 28) hC dX2_placeOf_9 (by decide) (by omega) (by omega) (fun c_9 => ?_) (fun c_9 => ?_)
    · refine m_iconst (v := 0) hC dX2_placeOf_28 (by decide) ?_
      refine m_istore_n hC dX2_placeOf_29 (fun z9 => [(3, .int (z32 z9)), (0, .ref (g.2.2 o)), (1, .int (z32 r)), (2, .int (z32 c))]) (by decide) (fun _ => rfl) (fun v3_29 hv3_29 => ?_)
      refine m_iload_n hC dX2_placeOf_30 0 rfl ?_
      refine m_if_eq (tgt := 45) hC dX2_placeOf_31 (by decide) (by omega) (fun c_31 => ?_) (fun c_31 => ?_)
      · refine m_iconst (v := -1) hC dX2_placeOf_45 (by decide) ?_
        refine m_ireti hC hR (Or.inl rfl) dX2_placeOf_46 ⟨Nat.le_of_ble_eq_true rfl, Nat.le_of_ble_eq_true rfl⟩ ?_ ?_
        · unfold tpl; split <;> omega
        · rfl
      · refine m_iload_n hC dX2_placeOf_34 2 rfl ?_
        refine m_aload_n hC dX2_placeOf_35 1 rfl ?_
        refine m_getK (o := o) (j := 1) (v := Cn) (CN := RX2) (T := TX2) (N := 3) hC iX2_placeOf_2 fX2_placeOf_24 rfl dX2_placeOf_36 h1 rfl (by decide) rfl ?_
        refine m_imul hC dX2_placeOf_39 ?_
        refine m_iload_n hC dX2_placeOf_40 3 rfl ?_
        refine m_iadd hC dX2_placeOf_41 ?_
        refine m_goto (tgt := 46) hC dX2_placeOf_42 (by decide) ?_
        refine m_ireti hC hR (Or.inl rfl) dX2_placeOf_46 ⟨Nat.le_of_ble_eq_true rfl, Nat.le_of_ble_eq_true rfl⟩ ?_ ?_
        · unfold tpl; split <;> omega
        · rfl
    · refine m_iload_n hC dX2_placeOf_12 2 rfl ?_
      refine m_if_lt (tgt := 28) hC dX2_placeOf_13 (by decide) (by omega) (fun c_13 => ?_) (fun c_13 => ?_)
      · refine m_iconst (v := 0) hC dX2_placeOf_28 (by decide) ?_
        refine m_istore_n hC dX2_placeOf_29 (fun z9 => [(3, .int (z32 z9)), (0, .ref (g.2.2 o)), (1, .int (z32 r)), (2, .int (z32 c))]) (by decide) (fun _ => rfl) (fun v3_29 hv3_29 => ?_)
        refine m_iload_n hC dX2_placeOf_30 0 rfl ?_
        refine m_if_eq (tgt := 45) hC dX2_placeOf_31 (by decide) (by omega) (fun c_31 => ?_) (fun c_31 => ?_)
        · refine m_iconst (v := -1) hC dX2_placeOf_45 (by decide) ?_
          refine m_ireti hC hR (Or.inl rfl) dX2_placeOf_46 ⟨Nat.le_of_ble_eq_true rfl, Nat.le_of_ble_eq_true rfl⟩ ?_ ?_
          · unfold tpl; split <;> omega
          · rfl
        · refine m_iload_n hC dX2_placeOf_34 2 rfl ?_
          refine m_aload_n hC dX2_placeOf_35 1 rfl ?_
          refine m_getK (o := o) (j := 1) (v := Cn) (CN := RX2) (T := TX2) (N := 3) hC iX2_placeOf_2 fX2_placeOf_24 rfl dX2_placeOf_36 h1 rfl (by decide) rfl ?_
          refine m_imul hC dX2_placeOf_39 ?_
          refine m_iload_n hC dX2_placeOf_40 3 rfl ?_
          refine m_iadd hC dX2_placeOf_41 ?_
          refine m_goto (tgt := 46) hC dX2_placeOf_42 (by decide) ?_
          refine m_ireti hC hR (Or.inl rfl) dX2_placeOf_46 ⟨Nat.le_of_ble_eq_true rfl, Nat.le_of_ble_eq_true rfl⟩ ?_ ?_
          · unfold tpl; split <;> omega
          · rfl
      · refine m_iload_n hC dX2_placeOf_16 2 rfl ?_
        refine m_aload_n hC dX2_placeOf_17 0 rfl ?_
        refine m_getK (o := o) (j := 1) (v := Cn) (CN := RX2) (T := TX2) (N := 3) hC iX2_placeOf_2 fX2_placeOf_24 rfl dX2_placeOf_18 h1 rfl (by decide) rfl ?_
        refine m_icmp_ge (tgt := 28) hC dX2_placeOf_21 (by decide) (by omega) (by omega) (fun c_21 => ?_) (fun c_21 => ?_)
        · refine m_iconst (v := 0) hC dX2_placeOf_28 (by decide) ?_
          refine m_istore_n hC dX2_placeOf_29 (fun z9 => [(3, .int (z32 z9)), (0, .ref (g.2.2 o)), (1, .int (z32 r)), (2, .int (z32 c))]) (by decide) (fun _ => rfl) (fun v3_29 hv3_29 => ?_)
          refine m_iload_n hC dX2_placeOf_30 0 rfl ?_
          refine m_if_eq (tgt := 45) hC dX2_placeOf_31 (by decide) (by omega) (fun c_31 => ?_) (fun c_31 => ?_)
          · refine m_iconst (v := -1) hC dX2_placeOf_45 (by decide) ?_
            refine m_ireti hC hR (Or.inl rfl) dX2_placeOf_46 ⟨Nat.le_of_ble_eq_true rfl, Nat.le_of_ble_eq_true rfl⟩ ?_ ?_
            · unfold tpl; split <;> omega
            · rfl
          · refine m_iload_n hC dX2_placeOf_34 2 rfl ?_
            refine m_aload_n hC dX2_placeOf_35 1 rfl ?_
            refine m_getK (o := o) (j := 1) (v := Cn) (CN := RX2) (T := TX2) (N := 3) hC iX2_placeOf_2 fX2_placeOf_24 rfl dX2_placeOf_36 h1 rfl (by decide) rfl ?_
            refine m_imul hC dX2_placeOf_39 ?_
            refine m_iload_n hC dX2_placeOf_40 3 rfl ?_
            refine m_iadd hC dX2_placeOf_41 ?_
            refine m_goto (tgt := 46) hC dX2_placeOf_42 (by decide) ?_
            refine m_ireti hC hR (Or.inl rfl) dX2_placeOf_46 ⟨Nat.le_of_ble_eq_true rfl, Nat.le_of_ble_eq_true rfl⟩ ?_ ?_
            · unfold tpl; split <;> omega
            · rfl
        · refine m_iconst (v := 1) hC dX2_placeOf_24 (by decide) ?_
          refine m_goto (tgt := 29) hC dX2_placeOf_25 (by decide) ?_
          refine m_istore_n hC dX2_placeOf_29 (fun z9 => [(3, .int (z32 z9)), (0, .ref (g.2.2 o)), (1, .int (z32 r)), (2, .int (z32 c))]) (by decide) (fun _ => rfl) (fun v3_29 hv3_29 => ?_)
          refine m_iload_n hC dX2_placeOf_30 0 rfl ?_
          refine m_if_eq (tgt := 45) hC dX2_placeOf_31 (by decide) (by omega) (fun c_31 => ?_) (fun c_31 => ?_)
          · refine m_iconst (v := -1) hC dX2_placeOf_45 (by decide) ?_
            refine m_ireti hC hR (Or.inl rfl) dX2_placeOf_46 ⟨Nat.le_of_ble_eq_true rfl, Nat.le_of_ble_eq_true rfl⟩ ?_ ?_
            · unfold tpl; split <;> omega
            · rfl
          · refine m_iload_n hC dX2_placeOf_34 2 rfl ?_
            refine m_aload_n hC dX2_placeOf_35 1 rfl ?_
            refine m_getK (o := o) (j := 1) (v := Cn) (CN := RX2) (T := TX2) (N := 3) hC iX2_placeOf_2 fX2_placeOf_24 rfl dX2_placeOf_36 h1 rfl (by decide) rfl ?_
            refine m_imul hC dX2_placeOf_39 ?_
            refine m_iload_n hC dX2_placeOf_40 3 rfl ?_
            refine m_iadd hC dX2_placeOf_41 ?_
            refine m_goto (tgt := 46) hC dX2_placeOf_42 (by decide) ?_
            refine m_ireti hC hR (Or.inl rfl) dX2_placeOf_46 ⟨Nat.le_of_ble_eq_true rfl, Nat.le_of_ble_eq_true rfl⟩ ?_ ?_
            · unfold tpl; split <;> omega
            · rfl
theorem iX2_get_2 : ∀ w ∈ wsX20, w ∈ wsX2_get := by decide +kernel
theorem fX2_get_27 : Cond.fieldLink RX2 27 "Mutualledger$Table" "cells" "[I" ∈ wsX2_get := by decide +kernel
set_option maxHeartbeats 4000000 in
set_option maxRecDepth 100000 in
theorem c_X2_get {g : mG} {S : Mem} {o a : Nat} {R Cn : Int} (hT : isTbl o a R Cn) {r c : Int} (hr : -2147483648 ≤ r ∧ r < 2147483648) (hc : -2147483648 ≤ c ∧ c < 2147483648) (l : Launch) : Does l yX2_get wsX2_get ({ frames := 1, cells := 0, slots := 0, locals := 23 } : Room) g [.ref (g.2.2 o), .int (z32 r), .int (z32 c)] S (PI (tg R Cn (S a) r c) S) := by
  refine Does.of (cc := cX2_get) (maxL := 4) (ret := (some .int)) (own := RX2) (by decide) rfl rfl (Nat.le_of_ble_eq_true rfl) ?_
  intro C hC hR
  show MW C g 4 (0, 0) 0 [(0, .ref (g.2.2 o)), (1, .int (z32 r)), (2, .int (z32 c))] [] S
  obtain ⟨n, h1, h2, hn, hR1, hR2, hC1, hC2⟩ := id hT
  have hq := tpl_rng (r := r) (c := c) hT
  refine m_aload_n hC dX2_get_0 0 rfl ?_
  refine m_iload_n hC dX2_get_1 1 rfl ?_
  refine m_iload_n hC dX2_get_2 2 rfl ?_
  refine m_callVi (n := 2) hC (c_X2_placeOf hT hr hc) gX2_get_X2_placeOf rfl dX2_get_3 h1 rfl (by decide +kernel) ⟨Nat.le_of_ble_eq_true rfl, Nat.le_of_ble_eq_true rfl⟩ rfl (Nat.le_of_ble_eq_true rfl) ⟨Nat.le_of_ble_eq_true rfl, Nat.le_of_ble_eq_true rfl⟩ rfl ?_
  refine m_istore_n hC dX2_get_6 (fun z9 => [(3, .int (z32 z9)), (0, .ref (g.2.2 o)), (1, .int (z32 r)), (2, .int (z32 c))]) (by decide) (fun _ => rfl) (fun v3_6 hv3_6 => ?_)
  refine m_iload_n hC dX2_get_7 0 rfl ?_
  refine m_if_lt (tgt := 29) hC dX2_get_8 (by decide) (by omega) (fun c_8 => ?_) (fun c_8 => ?_)
  · refine m_iconst (v := 0) hC dX2_get_29 (by decide) ?_
    refine m_ireti hC hR (Or.inl rfl) dX2_get_30 ⟨Nat.le_of_ble_eq_true rfl, Nat.le_of_ble_eq_true rfl⟩ ?_ ?_
    · rw [tg_tpl hC1, ← hv3_6]; split <;> first | rfl | (exfalso; omega)
    · rfl
  · refine m_iload_n hC dX2_get_11 0 rfl ?_
    refine m_aload_n hC dX2_get_12 1 rfl ?_
    refine m_getR (o := o) (j := 2) (a := a) (CN := RX2) (T := TX2) (N := 3) hC iX2_get_2 fX2_get_27 rfl dX2_get_13 h1 rfl (by decide) rfl ?_
    refine m_alen (o := a) (n := n) hC h2 (by decide) dX2_get_16 ?_
    refine m_icmp_ge (tgt := 29) hC dX2_get_17 (by decide) (by omega) (by omega) (fun c_17 => ?_) (fun c_17 => ?_)
    · refine m_iconst (v := 0) hC dX2_get_29 (by decide) ?_
      refine m_ireti hC hR (Or.inl rfl) dX2_get_30 ⟨Nat.le_of_ble_eq_true rfl, Nat.le_of_ble_eq_true rfl⟩ ?_ ?_
      · rw [tg_tpl hC1, ← hv3_6]; split <;> first | rfl | (exfalso; omega)
      · rfl
    · refine m_aload_n hC dX2_get_20 1 rfl ?_
      refine m_getR (o := o) (j := 2) (a := a) (CN := RX2) (T := TX2) (N := 3) hC iX2_get_2 fX2_get_27 rfl dX2_get_21 h1 rfl (by decide) rfl ?_
      refine m_iload_n hC dX2_get_24 0 rfl ?_
      refine m_iaload (o := a) (n := n) hC h2 dX2_get_25 (by omega) (by omega) (by omega) ?_
      refine m_goto (tgt := 30) hC dX2_get_26 (by decide) ?_
      refine m_ireti hC hR (Or.inl rfl) dX2_get_30 ⟨Nat.le_of_ble_eq_true rfl, Nat.le_of_ble_eq_true rfl⟩ ?_ ?_
      · rw [tg_tpl hC1, ← hv3_6]; split <;> first | rfl | (exfalso; omega)
      · rfl
theorem iX2_set_2 : ∀ w ∈ wsX20, w ∈ wsX2_set := by decide +kernel
theorem fX2_set_27 : Cond.fieldLink RX2 27 "Mutualledger$Table" "cells" "[I" ∈ wsX2_set := by decide +kernel
set_option maxHeartbeats 4000000 in
set_option maxRecDepth 100000 in
theorem c_X2_set {g : mG} {S : Mem} {o a : Nat} {R Cn : Int} (hT : isTbl o a R Cn) {r c v : Int} (hr : -2147483648 ≤ r ∧ r < 2147483648) (hc : -2147483648 ≤ c ∧ c < 2147483648) (l : Launch) : Does l yX2_set wsX2_set ({ frames := 1, cells := 0, slots := 0, locals := 23 } : Room) g [.ref (g.2.2 o), .int (z32 r), .int (z32 c), .int (z32 v)] S (PV (ts S a R Cn r c v)) := by
  refine Does.of (cc := cX2_set) (maxL := 5) (ret := none) (own := RX2) (by decide) rfl rfl (Nat.le_of_ble_eq_true rfl) ?_
  intro C hC hR
  show MW C g 5 (0, 0) 0 [(0, .ref (g.2.2 o)), (1, .int (z32 r)), (2, .int (z32 c)), (3, .int (z32 v))] [] S
  obtain ⟨n, h1, h2, hn, hR1, hR2, hC1, hC2⟩ := id hT
  have hq := tpl_rng (r := r) (c := c) hT
  refine m_aload_n hC dX2_set_0 0 rfl ?_
  refine m_iload_n hC dX2_set_1 1 rfl ?_
  refine m_iload_n hC dX2_set_2 2 rfl ?_
  refine m_callVi (n := 2) hC (c_X2_placeOf hT hr hc) gX2_set_X2_placeOf rfl dX2_set_3 h1 rfl (by decide +kernel) ⟨Nat.le_of_ble_eq_true rfl, Nat.le_of_ble_eq_true rfl⟩ rfl (Nat.le_of_ble_eq_true rfl) ⟨Nat.le_of_ble_eq_true rfl, Nat.le_of_ble_eq_true rfl⟩ rfl ?_
  refine m_istore hC dX2_set_6 (fun z9 => [(4, .int (z32 z9)), (0, .ref (g.2.2 o)), (1, .int (z32 r)), (2, .int (z32 c)), (3, .int (z32 v))]) (by decide) (fun _ => rfl) (fun v4_6 hv4_6 => ?_)
  refine m_iload hC dX2_set_8 0 rfl ?_
  refine m_if_lt (tgt := 31) hC dX2_set_10 (by decide) (by omega) (fun c_10 => ?_) (fun c_10 => ?_)
  · refine m_vretv hC hR dX2_set_31 ⟨Nat.le_of_ble_eq_true rfl, Nat.le_of_ble_eq_true rfl⟩ ?_
    rw [ts_tpl hC1, ← hv4_6]; split <;> first | rfl | (exfalso; omega)
  · refine m_iload hC dX2_set_13 0 rfl ?_
    refine m_aload_n hC dX2_set_15 1 rfl ?_
    refine m_getR (o := o) (j := 2) (a := a) (CN := RX2) (T := TX2) (N := 3) hC iX2_set_2 fX2_set_27 rfl dX2_set_16 h1 rfl (by decide) rfl ?_
    refine m_alen (o := a) (n := n) hC h2 (by decide) dX2_set_19 ?_
    refine m_icmp_ge (tgt := 31) hC dX2_set_20 (by decide) (by omega) (by omega) (fun c_20 => ?_) (fun c_20 => ?_)
    · refine m_vretv hC hR dX2_set_31 ⟨Nat.le_of_ble_eq_true rfl, Nat.le_of_ble_eq_true rfl⟩ ?_
      rw [ts_tpl hC1, ← hv4_6]; split <;> first | rfl | (exfalso; omega)
    · refine m_aload_n hC dX2_set_23 1 rfl ?_
      refine m_getR (o := o) (j := 2) (a := a) (CN := RX2) (T := TX2) (N := 3) hC iX2_set_2 fX2_set_27 rfl dX2_set_24 h1 rfl (by decide) rfl ?_
      refine m_iload hC dX2_set_27 0 rfl ?_
      refine m_iload_n hC dX2_set_29 4 rfl ?_
      refine m_iastore (o := a) (n := n) hC h2 dX2_set_30 (by omega) (by omega) (by omega) ?_
      refine m_vretv hC hR dX2_set_31 ⟨Nat.le_of_ble_eq_true rfl, Nat.le_of_ble_eq_true rfl⟩ ?_
      rw [ts_tpl hC1, ← hv4_6]; split <;> first | rfl | (exfalso; omega)
set_option maxHeartbeats 4000000 in
set_option maxRecDepth 100000 in
theorem c_X2_add {g : mG} {S : Mem} {o a : Nat} {R Cn : Int} (hT : isTbl o a R Cn) {r c v : Int} (hr : -2147483648 ≤ r ∧ r < 2147483648) (hc : -2147483648 ≤ c ∧ c < 2147483648) (l : Launch) : Does l yX2_add wsX2_add ({ frames := 2, cells := 0, slots := 0, locals := 47 } : Room) g [.ref (g.2.2 o), .int (z32 r), .int (z32 c), .int (z32 v)] S (PV (ts S a R Cn r c (tg R Cn (S a) r c + v))) := by
  refine Does.of (cc := cX2_add) (maxL := 4) (ret := none) (own := RX2) (by decide) rfl rfl (Nat.le_of_ble_eq_true rfl) ?_
  intro C hC hR
  show MW C g 4 (0, 0) 0 [(0, .ref (g.2.2 o)), (1, .int (z32 r)), (2, .int (z32 c)), (3, .int (z32 v))] [] S
  obtain ⟨n, h1, h2, hn, hR1, hR2, hC1, hC2⟩ := id hT
  refine m_aload_n hC dX2_add_0 0 rfl ?_
  refine m_iload_n hC dX2_add_1 1 rfl ?_
  refine m_iload_n hC dX2_add_2 2 rfl ?_
  refine m_aload_n hC dX2_add_3 0 rfl ?_
  refine m_iload_n hC dX2_add_4 1 rfl ?_
  refine m_iload_n hC dX2_add_5 2 rfl ?_
  refine m_callVi (n := 2) hC (c_X2_get hT hr hc) gX2_add_X2_get rfl dX2_add_6 h1 rfl (by decide +kernel) ⟨Nat.le_of_ble_eq_true rfl, Nat.le_of_ble_eq_true rfl⟩ rfl (Nat.le_of_ble_eq_true rfl) ⟨Nat.le_of_ble_eq_true rfl, Nat.le_of_ble_eq_true rfl⟩ rfl ?_
  refine m_iload_n hC dX2_add_9 3 rfl ?_
  refine m_iadd hC dX2_add_10 ?_
  refine m_callVv (n := 3) hC (c_X2_set hT hr hc) gX2_add_X2_set rfl dX2_add_11 h1 rfl (by decide +kernel) ⟨Nat.le_of_ble_eq_true rfl, Nat.le_of_ble_eq_true rfl⟩ rfl (Nat.le_of_ble_eq_true rfl) ⟨Nat.le_of_ble_eq_true rfl, Nat.le_of_ble_eq_true rfl⟩ rfl ?_
  refine m_vretv hC hR dX2_add_14 ⟨Nat.le_of_ble_eq_true rfl, Nat.le_of_ble_eq_true rfl⟩ ?_
  rfl
theorem iX2_rowSum_2 : ∀ w ∈ wsX20, w ∈ wsX2_rowSum := by decide +kernel
theorem fX2_rowSum_24 : Cond.fieldLink RX2 24 "Mutualledger$Table" "columns" "I" ∈ wsX2_rowSum := by decide +kernel
set_option maxHeartbeats 4000000 in
set_option maxRecDepth 100000 in
theorem c_X2_rowSum {g : mG} {S : Mem} {o a : Nat} {R Cn : Int} (hT : isTbl o a R Cn) {r : Int} (hr : -2147483648 ≤ r ∧ r < 2147483648) (l : Launch) : Does l yX2_rowSum wsX2_rowSum ({ frames := 2, cells := 0, slots := 0, locals := 46 } : Room) g [.ref (g.2.2 o), .int (z32 r)] S (PI (sI (fun c => tg R Cn (S a) r c) Cn.toNat) S) := by
  refine Does.of (cc := cX2_rowSum) (maxL := 4) (ret := (some .int)) (own := RX2) (by decide) rfl rfl (Nat.le_of_ble_eq_true rfl) ?_
  intro C hC hR
  show MW C g 4 (0, 0) 0 [(0, .ref (g.2.2 o)), (1, .int (z32 r))] [] S
  obtain ⟨n, h1, h2, hn, hR1, hR2, hC1, hC2⟩ := id hT
  refine m_iconst (v := 0) hC dX2_rowSum_0 (by decide) ?_
  refine m_istore_n hC dX2_rowSum_1 (fun z9 => [(2, .int (z32 z9)), (0, .ref (g.2.2 o)), (1, .int (z32 r))]) (by decide) (fun _ => rfl) (fun v2_1 hv2_1 => ?_)
  refine m_iconst (v := 0) hC dX2_rowSum_2 (by decide) ?_
  refine m_istore_n hC dX2_rowSum_3 (fun z9 => [(3, .int (z32 z9)), (2, .int (z32 v2_1)), (0, .ref (g.2.2 o)), (1, .int (z32 r))]) (by decide) (fun _ => rfl) (fun v3_3 hv3_3 => ?_)
  have L4 : ∀ (n4 : Nat) (i : Nat) (x : Int) (sm : Int), Cn - x < (n4 : Int) → x = (i : Int) → (i : Int) ≤ Cn → sm = sI (fun c => tg R Cn (S a) r c) i → MW C g 4 (0, 0) 4 [(0, .ref (g.2.2 o)), (1, .int (z32 r)), (2, .int (z32 sm)), (3, .int (z32 x))] [] S := by
    intro n4
    induction n4 with
    | zero => intros; exfalso; omega
    | succ n4 ih4 =>
      intro i x sm hm4 hx hi hsm
      refine m_iload_n hC dX2_rowSum_4 3 rfl ?_
      refine m_aload_n hC dX2_rowSum_5 0 rfl ?_
      refine m_getK (o := o) (j := 1) (v := Cn) (CN := RX2) (T := TX2) (N := 3) hC iX2_rowSum_2 fX2_rowSum_24 rfl dX2_rowSum_6 h1 rfl (by decide) rfl ?_
      refine m_icmp_ge (tgt := 27) hC dX2_rowSum_9 (by decide) (by omega) (by omega) (fun c_9 => ?_) (fun c_9 => ?_)
      · refine m_iload_n hC dX2_rowSum_27 2 rfl ?_
        refine m_ireti hC hR (Or.inl rfl) dX2_rowSum_28 ⟨Nat.le_of_ble_eq_true rfl, Nat.le_of_ble_eq_true rfl⟩ ?_ ?_
        · rw [hsm, show i = Cn.toNat by omega]
        · rfl
      · refine m_iload_n hC dX2_rowSum_12 2 rfl ?_
        refine m_aload_n hC dX2_rowSum_13 0 rfl ?_
        refine m_iload_n hC dX2_rowSum_14 1 rfl ?_
        refine m_iload_n hC dX2_rowSum_15 3 rfl ?_
        refine m_callVi (n := 2) hC (c_X2_get hT hr (by omega)) gX2_rowSum_X2_get rfl dX2_rowSum_16 h1 rfl (by decide +kernel) ⟨Nat.le_of_ble_eq_true rfl, Nat.le_of_ble_eq_true rfl⟩ rfl (Nat.le_of_ble_eq_true rfl) ⟨Nat.le_of_ble_eq_true rfl, Nat.le_of_ble_eq_true rfl⟩ rfl ?_
        refine m_iadd hC dX2_rowSum_19 ?_
        refine m_istore_n hC dX2_rowSum_20 (fun z9 => [(2, .int (z32 z9)), (0, .ref (g.2.2 o)), (1, .int (z32 r)), (3, .int (z32 x))]) (by decide) (fun _ => rfl) (fun v2_20 hv2_20 => ?_)
        refine m_iinc hC dX2_rowSum_21 3 rfl (fun z9 => [(3, .int (z32 z9)), (2, .int (z32 v2_20)), (0, .ref (g.2.2 o)), (1, .int (z32 r))]) (by decide) (fun _ => rfl) (fun v3_21 hv3_21 => ?_)
        refine m_goto (tgt := 4) hC dX2_rowSum_24 (by decide) ?_
        refine m_locals [2, 3, 1, 0] rfl ?_
        exact ih4 (i + 1) v3_21 v2_20 (by omega) (by omega) (by omega) (by rw [sI, hv2_20, hsm, hx])
  refine m_locals [2, 3, 1, 0] rfl ?_
  exact L4 10 0 v3_3 v2_1 (by omega) (by omega) (by omega) (hv2_1)
theorem iX2_columnSum_2 : ∀ w ∈ wsX20, w ∈ wsX2_columnSum := by decide +kernel
theorem fX2_columnSum_20 : Cond.fieldLink RX2 20 "Mutualledger$Table" "rows" "I" ∈ wsX2_columnSum := by decide +kernel
set_option maxHeartbeats 4000000 in
set_option maxRecDepth 100000 in
theorem c_X2_columnSum {g : mG} {S : Mem} {o a : Nat} {R Cn : Int} (hT : isTbl o a R Cn) {c : Int} (hc : -2147483648 ≤ c ∧ c < 2147483648) (l : Launch) : Does l yX2_columnSum wsX2_columnSum ({ frames := 2, cells := 0, slots := 0, locals := 46 } : Room) g [.ref (g.2.2 o), .int (z32 c)] S (PI (sI (fun r => tg R Cn (S a) r c) R.toNat) S) := by
  refine Does.of (cc := cX2_columnSum) (maxL := 4) (ret := (some .int)) (own := RX2) (by decide) rfl rfl (Nat.le_of_ble_eq_true rfl) ?_
  intro C hC hR
  show MW C g 4 (0, 0) 0 [(0, .ref (g.2.2 o)), (1, .int (z32 c))] [] S
  obtain ⟨n, h1, h2, hn, hR1, hR2, hC1, hC2⟩ := id hT
  refine m_iconst (v := 0) hC dX2_columnSum_0 (by decide) ?_
  refine m_istore_n hC dX2_columnSum_1 (fun z9 => [(2, .int (z32 z9)), (0, .ref (g.2.2 o)), (1, .int (z32 c))]) (by decide) (fun _ => rfl) (fun v2_1 hv2_1 => ?_)
  refine m_iconst (v := 0) hC dX2_columnSum_2 (by decide) ?_
  refine m_istore_n hC dX2_columnSum_3 (fun z9 => [(3, .int (z32 z9)), (2, .int (z32 v2_1)), (0, .ref (g.2.2 o)), (1, .int (z32 c))]) (by decide) (fun _ => rfl) (fun v3_3 hv3_3 => ?_)
  have L4 : ∀ (n4 : Nat) (i : Nat) (x : Int) (sm : Int), R - x < (n4 : Int) → x = (i : Int) → (i : Int) ≤ R → sm = sI (fun r => tg R Cn (S a) r c) i → MW C g 4 (0, 0) 4 [(0, .ref (g.2.2 o)), (1, .int (z32 c)), (2, .int (z32 sm)), (3, .int (z32 x))] [] S := by
    intro n4
    induction n4 with
    | zero => intros; exfalso; omega
    | succ n4 ih4 =>
      intro i x sm hm4 hx hi hsm
      refine m_iload_n hC dX2_columnSum_4 3 rfl ?_
      refine m_aload_n hC dX2_columnSum_5 0 rfl ?_
      refine m_getK (o := o) (j := 0) (v := R) (CN := RX2) (T := TX2) (N := 3) hC iX2_columnSum_2 fX2_columnSum_20 rfl dX2_columnSum_6 h1 rfl (by decide) rfl ?_
      refine m_icmp_ge (tgt := 27) hC dX2_columnSum_9 (by decide) (by omega) (by omega) (fun c_9 => ?_) (fun c_9 => ?_)
      · refine m_iload_n hC dX2_columnSum_27 2 rfl ?_
        refine m_ireti hC hR (Or.inl rfl) dX2_columnSum_28 ⟨Nat.le_of_ble_eq_true rfl, Nat.le_of_ble_eq_true rfl⟩ ?_ ?_
        · rw [hsm, show i = R.toNat by omega]
        · rfl
      · refine m_iload_n hC dX2_columnSum_12 2 rfl ?_
        refine m_aload_n hC dX2_columnSum_13 0 rfl ?_
        refine m_iload_n hC dX2_columnSum_14 3 rfl ?_
        refine m_iload_n hC dX2_columnSum_15 1 rfl ?_
        refine m_callVi (n := 2) hC (c_X2_get hT (by omega) hc) gX2_columnSum_X2_get rfl dX2_columnSum_16 h1 rfl (by decide +kernel) ⟨Nat.le_of_ble_eq_true rfl, Nat.le_of_ble_eq_true rfl⟩ rfl (Nat.le_of_ble_eq_true rfl) ⟨Nat.le_of_ble_eq_true rfl, Nat.le_of_ble_eq_true rfl⟩ rfl ?_
        refine m_iadd hC dX2_columnSum_19 ?_
        refine m_istore_n hC dX2_columnSum_20 (fun z9 => [(2, .int (z32 z9)), (0, .ref (g.2.2 o)), (1, .int (z32 c)), (3, .int (z32 x))]) (by decide) (fun _ => rfl) (fun v2_20 hv2_20 => ?_)
        refine m_iinc hC dX2_columnSum_21 3 rfl (fun z9 => [(3, .int (z32 z9)), (2, .int (z32 v2_20)), (0, .ref (g.2.2 o)), (1, .int (z32 c))]) (by decide) (fun _ => rfl) (fun v3_21 hv3_21 => ?_)
        refine m_goto (tgt := 4) hC dX2_columnSum_24 (by decide) ?_
        refine m_locals [2, 3, 1, 0] rfl ?_
        exact ih4 (i + 1) v3_21 v2_20 (by omega) (by omega) (by omega) (by rw [sI, hv2_20, hsm, hx])
  refine m_locals [2, 3, 1, 0] rfl ?_
  exact L4 101 0 v3_3 v2_1 (by omega) (by omega) (by omega) (hv2_1)
set_option maxHeartbeats 4000000 in
set_option maxRecDepth 100000 in
theorem c_X2_clearAllOf {g : mG} {S : Mem} {o a : Nat} {R Cn : Int} (hT : isTbl o a R Cn) {c : Int} (hc : -2147483648 ≤ c ∧ c < 2147483648) (l : Launch) : Does l yX2_clearAllOf wsX2_clearAllOf ({ frames := 2, cells := 0, slots := 0, locals := 47 } : Room) g [.ref (g.2.2 o), .int (z32 c)] S (PV (tclr a R Cn c S 9)) := by
  refine Does.of (cc := cX2_clearAllOf) (maxL := 3) (ret := none) (own := RX2) (by decide) rfl rfl (Nat.le_of_ble_eq_true rfl) ?_
  intro C hC hR
  show MW C g 3 (0, 0) 0 [(0, .ref (g.2.2 o)), (1, .int (z32 c))] [] S
  obtain ⟨n, h1, h2, hn, hR1, hR2, hC1, hC2⟩ := id hT
  refine m_iconst (v := 0) hC dX2_clearAllOf_0 (by decide) ?_
  refine m_istore_n hC dX2_clearAllOf_1 (fun z9 => [(2, .int (z32 z9)), (0, .ref (g.2.2 o)), (1, .int (z32 c))]) (by decide) (fun _ => rfl) (fun v2_1 hv2_1 => ?_)
  have L2 : ∀ (n2 : Nat) (i : Nat) (x : Int) (S1 : Mem), 9 - x < (n2 : Int) → x = (i : Int) → (i : Int) ≤ 9 → S1 = tclr a R Cn c S i → MW C g 3 (0, 0) 2 [(0, .ref (g.2.2 o)), (1, .int (z32 c)), (2, .int (z32 x))] [] S1 := by
    intro n2
    induction n2 with
    | zero => intros; exfalso; omega
    | succ n2 ih2 =>
      intro i x S1 hm2 hx hi hS1
      refine m_iload_n hC dX2_clearAllOf_2 2 rfl ?_
      refine m_bipush (v := 9) hC dX2_clearAllOf_3 (by decide) ?_
      refine m_icmp_ge (tgt := 28) hC dX2_clearAllOf_5 (by decide) (by omega) (by omega) (fun c_5 => ?_) (fun c_5 => ?_)
      · refine m_vretv hC hR dX2_clearAllOf_28 ⟨Nat.le_of_ble_eq_true rfl, Nat.le_of_ble_eq_true rfl⟩ ?_
        rw [hS1, show i = 9 by omega]
      · refine m_aload_n hC dX2_clearAllOf_8 0 rfl ?_
        refine m_iload_n hC dX2_clearAllOf_9 1 rfl ?_
        refine m_iload_n hC dX2_clearAllOf_10 2 rfl ?_
        refine m_iconst (v := 0) hC dX2_clearAllOf_11 (by decide) ?_
        refine m_callVv (n := 3) hC (c_X2_set hT hc (by omega)) gX2_clearAllOf_X2_set rfl dX2_clearAllOf_12 h1 rfl (by decide +kernel) ⟨Nat.le_of_ble_eq_true rfl, Nat.le_of_ble_eq_true rfl⟩ rfl (Nat.le_of_ble_eq_true rfl) ⟨Nat.le_of_ble_eq_true rfl, Nat.le_of_ble_eq_true rfl⟩ rfl ?_
        refine m_aload_n hC dX2_clearAllOf_15 0 rfl ?_
        refine m_iload_n hC dX2_clearAllOf_16 2 rfl ?_
        refine m_iload_n hC dX2_clearAllOf_17 1 rfl ?_
        refine m_iconst (v := 0) hC dX2_clearAllOf_18 (by decide) ?_
        refine m_callVv (n := 3) hC (c_X2_set hT (by omega) hc) gX2_clearAllOf_X2_set rfl dX2_clearAllOf_19 h1 rfl (by decide +kernel) ⟨Nat.le_of_ble_eq_true rfl, Nat.le_of_ble_eq_true rfl⟩ rfl (Nat.le_of_ble_eq_true rfl) ⟨Nat.le_of_ble_eq_true rfl, Nat.le_of_ble_eq_true rfl⟩ rfl ?_
        refine m_iinc hC dX2_clearAllOf_22 2 rfl (fun z9 => [(2, .int (z32 z9)), (0, .ref (g.2.2 o)), (1, .int (z32 c))]) (by decide) (fun _ => rfl) (fun v2_22 hv2_22 => ?_)
        refine m_goto (tgt := 2) hC dX2_clearAllOf_25 (by decide) ?_
        refine m_locals [1, 2, 0] rfl ?_
        exact ih2 (i + 1) v2_22 _ (by omega) (by omega) (by omega) (by rw [tclr, hS1, hx])
  refine m_locals [1, 2, 0] rfl ?_
  exact L2 10 0 v2_1 S (by omega) (by omega) (by omega) (rfl)
