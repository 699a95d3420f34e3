/-! ===== the law's wrappers ===== -/
section
variable {C : mX} {own : String} {cc : ByteArray} {nL : Nat} {Ts : List Cond} {rm : Room} {g : mG} {k : Nat × Nat} {pc : Nat} {lv : List (Nat × Value)} {st : List Value} {S : Mem}
theorem m_lconst (hC : mCtx C own cc nL Ts rm g) {n : Fin 2} {v : Int} (hd : decode cc pc = .ok (.lconst n, 1)) (hv : Int64.ofNat (n : Nat) = z64 v) (kk : MW C g nL k (pc + 1) lv (.long (z64 v) :: st) S) : MW C g nL k pc lv st S := by
  obtain ⟨p, l, e, R, s, m, args, below, meth, c, Q, A⟩ := C
  obtain ⟨hx, hb, hml, hown, hts, hK, hD, hA, hlk, hR⟩ := hC
  intro H locs ls hl hP hS
  exact lv_lconst hx hb hd hv (kk H locs ls hl hP hS)
end
def tr12 (c : Int) : Int := if c = 1 then 1 else 2
def tr123 (c : Int) : Int := c
def trOne (c : Int) : Int := if c = 0 then 0 else 1
set_option maxHeartbeats 4000000 in
set_option maxRecDepth 100000 in
theorem c_L_join {g : mG} {S : Mem} (hg : Rg S) (hval : cxJoin S = 0 → -2147483648 ≤ S 0 6 ∧ S 0 6 < 2147483648) (l : Launch) : DoesX l yL_join wsL_join ({ frames := 7, cells := 1, slots := 6, locals := 110 } : Room) g [.ref (g.2.2 0), .ref (g.2.2 32)] S (WP trOne S (cxJoin S) (S 0 6) (mset S 0 6 (S 0 6 + 1))) (fun _ _ => False) := by
  refine DoesX.ofH (hh := [(0, 8, 11, 13)]) (cc := cL_join) (maxL := 3) (ret := (some .int)) (own := RL) (by decide) rfl rfl (Nat.le_of_ble_eq_true rfl) ?_
  intro C hC hX hR
  show MW C g 3 (0, 0) 0 [(0, .ref (g.2.2 0)), (1, .ref (g.2.2 32))] [] S
  refine m_aload_n hC dL_join_0 1 rfl ?_
  refine m_iconst (v := 0) hC dL_join_1 (by decide) ?_
  refine m_aload_n hC dL_join_2 0 rfl ?_
  refine x_callC (n := 0) hC hX (c_X4_join hg) gL_join_X4_join rfl dL_join_3 rfl rfl (by decide +kernel) ⟨Nat.le_of_ble_eq_true rfl, Nat.le_of_ble_eq_true rfl⟩ rfl (Nat.le_of_ble_eq_true rfl) ⟨Nat.le_of_ble_eq_true rfl, Nat.le_of_ble_eq_true rfl⟩ rfl (fun E9 S9 q9 => ?_) (fun r9 S9 q9 => ?_)
  · obtain ⟨rfl, q9⟩ := q9
    rcases q9 with ⟨hc9, rfl⟩ | ⟨hc9, rfl⟩ | ⟨hc9, rfl⟩
    · exact absurd hc9 (by unfold cxJoin; repeat' (first | apply sq_ne | (show (0 : Int) ≠ _; decide) | (unfold xnS; split <;> decide) | (unfold xnW; split <;> decide) | (unfold xnT; split <;> decide) | (unfold xnR; split <;> decide) | (unfold xnU; split <;> decide) | (unfold xnB; split <;> decide) | (unfold xnG) | (unfold xnH; split) | (split <;> decide)))
    · exact absurd hc9 (by unfold cxJoin; repeat' (first | apply sq_ne | (show (0 : Int) ≠ _; decide) | (unfold xnS; split <;> decide) | (unfold xnW; split <;> decide) | (unfold xnT; split <;> decide) | (unfold xnR; split <;> decide) | (unfold xnU; split <;> decide) | (unfold xnB; split <;> decide) | (unfold xnG) | (unfold xnH; split) | (split <;> decide)))
    · refine ⟨11, ⟨[], (0, 8, 11, 13), [], rfl, (fun z hz => nomatch hz), by decide, by decide, by decide +kernel, rfl, by decide +kernel⟩, fun q8 => ?_⟩
      refine m_astore_n hC dL_join_11 [(2, .ref q8), (0, .ref (g.2.2 0)), (1, .ref (g.2.2 32))] (by decide) rfl ?_
      refine m_iconst (v := 1) hC dL_join_12 (by decide) ?_
      refine x_iret hC hR (Or.inl rfl) dL_join_13 ⟨Nat.le_of_ble_eq_true rfl, Nat.le_of_ble_eq_true rfl⟩ ⟨_, rfl, ?_⟩
      exact ⟨fun h => absurd (hc9.symm.trans h) (by decide), fun _ => ⟨by rw [hc9]; rfl, rfl⟩⟩
  · obtain ⟨hc9, rfl, rfl⟩ := q9
    refine m_i2l hC dL_join_6 (hval hc9) ?_
    refine m_lastore (o := 32) (n := 1) hC rfl dL_join_7 (by omega) (by omega) (by decide) ?_
    refine m_goto (tgt := 14) hC dL_join_8 (by decide) ?_
    refine m_iconst (v := 0) hC dL_join_14 (by decide) ?_
    refine x_iret hC hR (Or.inl rfl) dL_join_15 ⟨Nat.le_of_ble_eq_true rfl, Nat.le_of_ble_eq_true rfl⟩ ⟨_, rfl, ?_⟩
    exact ⟨fun _ => ⟨rfl, rfl⟩, fun h => absurd hc9 h⟩
set_option maxHeartbeats 4000000 in
set_option maxRecDepth 100000 in
theorem c_L_leave {g : mG} {S : Mem} {s : Int} (hs : -2147483648 ≤ s ∧ s < 2147483648) (hg : Rg S) (hok : OkD (S 8)) (hgu : OkD (S 12)) (hval : cxLeav S s = 0 → -2147483648 ≤ (lvB S s).2.2 + (lvD S s).2.2 ∧ (lvB S s).2.2 + (lvD S s).2.2 < 2147483648) (l : Launch) : DoesX l yL_leave wsL_leave ({ frames := 8, cells := 2, slots := 12, locals := 164 } : Room) g [.ref (g.2.2 0), .int (z32 s), .ref (g.2.2 32)] S (WP tr12 S (cxLeav S s) ((lvB S s).2.2 + (lvD S s).2.2) (stLeavC S s)) (fun _ _ => False) := by
  refine DoesX.ofH (hh := [(0, 9, 12, 19), (0, 9, 15, 13)]) (cc := cL_leave) (maxL := 4) (ret := (some .int)) (own := RL) (by decide) rfl rfl (Nat.le_of_ble_eq_true rfl) ?_
  intro C hC hX hR
  show MW C g 4 (0, 0) 0 [(0, .ref (g.2.2 0)), (1, .int (z32 s)), (2, .ref (g.2.2 32))] [] S
  refine m_aload_n hC dL_leave_0 2 rfl ?_
  refine m_iconst (v := 0) hC dL_leave_1 (by decide) ?_
  refine m_aload_n hC dL_leave_2 0 rfl ?_
  refine m_iload_n hC dL_leave_3 1 rfl ?_
  refine x_callC (n := 1) hC hX (c_X4_leave hs hg hok hgu) gL_leave_X4_leave rfl dL_leave_4 rfl rfl (by decide +kernel) ⟨Nat.le_of_ble_eq_true rfl, Nat.le_of_ble_eq_true rfl⟩ rfl (Nat.le_of_ble_eq_true rfl) ⟨Nat.le_of_ble_eq_true rfl, Nat.le_of_ble_eq_true rfl⟩ rfl (fun E9 S9 q9 => ?_) (fun r9 S9 q9 => ?_)
  · obtain ⟨rfl, q9⟩ := q9
    rcases q9 with ⟨hc9, rfl⟩ | ⟨hc9, rfl⟩ | ⟨hc9, rfl⟩
    · refine ⟨12, ⟨[], (0, 9, 12, 19), [(0, 9, 15, 13)], rfl, (fun z hz => nomatch hz), by decide, by decide, by decide +kernel, rfl, by decide +kernel⟩, fun q8 => ?_⟩
      refine m_astore_n hC dL_leave_12 [(3, .ref q8), (0, .ref (g.2.2 0)), (1, .int (z32 s)), (2, .ref (g.2.2 32))] (by decide) rfl ?_
      refine m_iconst (v := 1) hC dL_leave_13 (by decide) ?_
      refine x_iret hC hR (Or.inl rfl) dL_leave_14 ⟨Nat.le_of_ble_eq_true rfl, Nat.le_of_ble_eq_true rfl⟩ ⟨_, rfl, ?_⟩
      exact ⟨fun h => absurd (hc9.symm.trans h) (by decide), fun _ => ⟨by rw [hc9]; rfl, rfl⟩⟩
    · exact absurd hc9 (by unfold cxLeav; repeat' (first | apply sq_ne | (show (0 : Int) ≠ _; decide) | (unfold xnS; split <;> decide) | (unfold xnW; split <;> decide) | (unfold xnT; split <;> decide) | (unfold xnR; split <;> decide) | (unfold xnU; split <;> decide) | (unfold xnB; split <;> decide) | (unfold xnG) | (unfold xnH; split) | (split <;> decide)))
    · refine ⟨15, ⟨[(0, 9, 12, 19)], (0, 9, 15, 13), [], rfl, (fun z hz => by simp only [List.mem_cons, List.not_mem_nil, or_false] at hz; rcases hz with rfl <;> first | exact ⟨by decide, xIOB, by decide +kernel, by decide⟩), by decide, by decide, by decide +kernel, rfl, by decide +kernel⟩, fun q8 => ?_⟩
      refine m_astore_n hC dL_leave_15 [(3, .ref q8), (0, .ref (g.2.2 0)), (1, .int (z32 s)), (2, .ref (g.2.2 32))] (by decide) rfl ?_
      refine m_iconst (v := 2) hC dL_leave_16 (by decide) ?_
      refine x_iret hC hR (Or.inl rfl) dL_leave_17 ⟨Nat.le_of_ble_eq_true rfl, Nat.le_of_ble_eq_true rfl⟩ ⟨_, rfl, ?_⟩
      exact ⟨fun h => absurd (hc9.symm.trans h) (by decide), fun _ => ⟨by rw [hc9]; rfl, rfl⟩⟩
  · obtain ⟨hc9, rfl, rfl⟩ := q9
    refine m_i2l hC dL_leave_7 (hval hc9) ?_
    refine m_lastore (o := 32) (n := 1) hC rfl dL_leave_8 (by omega) (by omega) (by decide) ?_
    refine m_goto (tgt := 18) hC dL_leave_9 (by decide) ?_
    refine m_iconst (v := 0) hC dL_leave_18 (by decide) ?_
    refine x_iret hC hR (Or.inl rfl) dL_leave_19 ⟨Nat.le_of_ble_eq_true rfl, Nat.le_of_ble_eq_true rfl⟩ ⟨_, rfl, ?_⟩
    exact ⟨fun _ => ⟨rfl, rfl⟩, fun h => absurd hc9 h⟩
set_option maxHeartbeats 4000000 in
set_option maxRecDepth 100000 in
theorem c_L_trade {g : mG} {S : Mem} {b : Int} (hb : -2147483648 ≤ b ∧ b < 2147483648) {s : Int} (hs : -2147483648 ≤ s ∧ s < 2147483648) {a : Int} (ha : -2147483648 ≤ a ∧ a < 2147483648) (hg : Rg S) (hok : OkD (S 8)) (hfz : Fz (S 8) (S 10)) (hlr : ∀ s, 0 ≤ s → s < 9 → -1000000 ≤ lim S s ∧ lim S s ≤ 1000000) (hval : cxTrade S b s a = 0 → -2147483648 ≤ S 3 1 ∧ S 3 1 < 2147483648) (l : Launch) : DoesX l yL_trade wsL_trade ({ frames := 8, cells := 5, slots := 30, locals := 182 } : Room) g [.ref (g.2.2 0), .int (z32 b), .int (z32 s), .int (z32 a), .ref (g.2.2 32)] S (WP tr123 S (cxTrade S b s a) (S 3 1) (stTradeC S b s a)) (fun _ _ => False) := by
  refine DoesX.ofH (hh := [(0, 12, 15, 19), (0, 12, 19, 25), (0, 12, 23, 13)]) (cc := cL_trade) (maxL := 6) (ret := (some .int)) (own := RL) (by decide) rfl rfl (Nat.le_of_ble_eq_true rfl) ?_
  intro C hC hX hR
  show MW C g 6 (0, 0) 0 [(0, .ref (g.2.2 0)), (1, .int (z32 b)), (2, .int (z32 s)), (3, .int (z32 a)), (4, .ref (g.2.2 32))] [] S
  refine m_aload hC dL_trade_0 4 rfl ?_
  refine m_iconst (v := 0) hC dL_trade_2 (by decide) ?_
  refine m_aload_n hC dL_trade_3 0 rfl ?_
  refine m_iload_n hC dL_trade_4 1 rfl ?_
  refine m_iload_n hC dL_trade_5 2 rfl ?_
  refine m_iload_n hC dL_trade_6 3 rfl ?_
  refine x_callC (n := 3) hC hX (c_X4_trade hb hs ha hg hok hfz hlr) gL_trade_X4_trade rfl dL_trade_7 rfl rfl (by decide +kernel) ⟨Nat.le_of_ble_eq_true rfl, Nat.le_of_ble_eq_true rfl⟩ rfl (Nat.le_of_ble_eq_true rfl) ⟨Nat.le_of_ble_eq_true rfl, Nat.le_of_ble_eq_true rfl⟩ rfl (fun E9 S9 q9 => ?_) (fun r9 S9 q9 => ?_)
  · obtain ⟨rfl, q9⟩ := q9
    rcases q9 with ⟨hc9, rfl⟩ | ⟨hc9, rfl⟩ | ⟨hc9, rfl⟩
    · refine ⟨15, ⟨[], (0, 12, 15, 19), [(0, 12, 19, 25), (0, 12, 23, 13)], rfl, (fun z hz => nomatch hz), by decide, by decide, by decide +kernel, rfl, by decide +kernel⟩, fun q8 => ?_⟩
      refine m_astore hC dL_trade_15 [(5, .ref q8), (0, .ref (g.2.2 0)), (1, .int (z32 b)), (2, .int (z32 s)), (3, .int (z32 a)), (4, .ref (g.2.2 32))] (by decide) rfl ?_
      refine m_iconst (v := 1) hC dL_trade_17 (by decide) ?_
      refine x_iret hC hR (Or.inl rfl) dL_trade_18 ⟨Nat.le_of_ble_eq_true rfl, Nat.le_of_ble_eq_true rfl⟩ ⟨_, rfl, ?_⟩
      exact ⟨fun h => absurd (hc9.symm.trans h) (by decide), fun _ => ⟨by rw [hc9]; rfl, rfl⟩⟩
    · refine ⟨19, ⟨[(0, 12, 15, 19)], (0, 12, 19, 25), [(0, 12, 23, 13)], rfl, (fun z hz => by simp only [List.mem_cons, List.not_mem_nil, or_false] at hz; rcases hz with rfl <;> first | exact ⟨by decide, xIOB, by decide +kernel, by decide⟩), by decide, by decide, by decide +kernel, rfl, by decide +kernel⟩, fun q8 => ?_⟩
      refine m_astore hC dL_trade_19 [(5, .ref q8), (0, .ref (g.2.2 0)), (1, .int (z32 b)), (2, .int (z32 s)), (3, .int (z32 a)), (4, .ref (g.2.2 32))] (by decide) rfl ?_
      refine m_iconst (v := 2) hC dL_trade_21 (by decide) ?_
      refine x_iret hC hR (Or.inl rfl) dL_trade_22 ⟨Nat.le_of_ble_eq_true rfl, Nat.le_of_ble_eq_true rfl⟩ ⟨_, rfl, ?_⟩
      exact ⟨fun h => absurd (hc9.symm.trans h) (by decide), fun _ => ⟨by rw [hc9]; rfl, rfl⟩⟩
    · refine ⟨23, ⟨[(0, 12, 15, 19), (0, 12, 19, 25)], (0, 12, 23, 13), [], rfl, (fun z hz => by simp only [List.mem_cons, List.not_mem_nil, or_false] at hz; rcases hz with rfl | rfl <;> first | exact ⟨by decide, xIOB, by decide +kernel, by decide⟩ | exact ⟨by decide, xIAE, by decide +kernel, by decide⟩), by decide, by decide, by decide +kernel, rfl, by decide +kernel⟩, fun q8 => ?_⟩
      refine m_astore hC dL_trade_23 [(5, .ref q8), (0, .ref (g.2.2 0)), (1, .int (z32 b)), (2, .int (z32 s)), (3, .int (z32 a)), (4, .ref (g.2.2 32))] (by decide) rfl ?_
      refine m_iconst (v := 3) hC dL_trade_25 (by decide) ?_
      refine x_iret hC hR (Or.inl rfl) dL_trade_26 ⟨Nat.le_of_ble_eq_true rfl, Nat.le_of_ble_eq_true rfl⟩ ⟨_, rfl, ?_⟩
      exact ⟨fun h => absurd (hc9.symm.trans h) (by decide), fun _ => ⟨by rw [hc9]; rfl, rfl⟩⟩
  · obtain ⟨hc9, rfl, rfl⟩ := q9
    refine m_i2l hC dL_trade_10 (hval hc9) ?_
    refine m_lastore (o := 32) (n := 1) hC rfl dL_trade_11 (by omega) (by omega) (by decide) ?_
    refine m_goto (tgt := 27) hC dL_trade_12 (by decide) ?_
    refine m_iconst (v := 0) hC dL_trade_27 (by decide) ?_
    refine x_iret hC hR (Or.inl rfl) dL_trade_28 ⟨Nat.le_of_ble_eq_true rfl, Nat.le_of_ble_eq_true rfl⟩ ⟨_, rfl, ?_⟩
    exact ⟨fun _ => ⟨rfl, rfl⟩, fun h => absurd hc9 h⟩
set_option maxHeartbeats 4000000 in
set_option maxRecDepth 100000 in
theorem c_L_dispute {g : mG} {S : Mem} {t : Int} (ht : -2147483648 ≤ t ∧ t < 2147483648) (hg : Rg S) (hok : OkD (S 8)) (hfz : Fz (S 8) (S 10)) (hval : cxDisp S t = 0 → -2147483648 ≤ ptDC S t ∧ ptDC S t < 2147483648) (l : Launch) : DoesX l yL_dispute wsL_dispute ({ frames := 8, cells := 2, slots := 12, locals := 135 } : Room) g [.ref (g.2.2 0), .int (z32 t), .ref (g.2.2 32)] S (WP tr12 S (cxDisp S t) (ptDC S t) (stDispC S t)) (fun _ _ => False) := by
  refine DoesX.ofH (hh := [(0, 9, 12, 19), (0, 9, 15, 13)]) (cc := cL_dispute) (maxL := 4) (ret := (some .int)) (own := RL) (by decide) rfl rfl (Nat.le_of_ble_eq_true rfl) ?_
  intro C hC hX hR
  show MW C g 4 (0, 0) 0 [(0, .ref (g.2.2 0)), (1, .int (z32 t)), (2, .ref (g.2.2 32))] [] S
  refine m_aload_n hC dL_dispute_0 2 rfl ?_
  refine m_iconst (v := 0) hC dL_dispute_1 (by decide) ?_
  refine m_aload_n hC dL_dispute_2 0 rfl ?_
  refine m_iload_n hC dL_dispute_3 1 rfl ?_
  refine x_callC (n := 1) hC hX (c_X4_dispute ht hg hok hfz) gL_dispute_X4_dispute rfl dL_dispute_4 rfl rfl (by decide +kernel) ⟨Nat.le_of_ble_eq_true rfl, Nat.le_of_ble_eq_true rfl⟩ rfl (Nat.le_of_ble_eq_true rfl) ⟨Nat.le_of_ble_eq_true rfl, Nat.le_of_ble_eq_true rfl⟩ rfl (fun E9 S9 q9 => ?_) (fun r9 S9 q9 => ?_)
  · obtain ⟨rfl, q9⟩ := q9
    rcases q9 with ⟨hc9, rfl⟩ | ⟨hc9, rfl⟩ | ⟨hc9, rfl⟩
    · refine ⟨12, ⟨[], (0, 9, 12, 19), [(0, 9, 15, 13)], rfl, (fun z hz => nomatch hz), by decide, by decide, by decide +kernel, rfl, by decide +kernel⟩, fun q8 => ?_⟩
      refine m_astore_n hC dL_dispute_12 [(3, .ref q8), (0, .ref (g.2.2 0)), (1, .int (z32 t)), (2, .ref (g.2.2 32))] (by decide) rfl ?_
      refine m_iconst (v := 1) hC dL_dispute_13 (by decide) ?_
      refine x_iret hC hR (Or.inl rfl) dL_dispute_14 ⟨Nat.le_of_ble_eq_true rfl, Nat.le_of_ble_eq_true rfl⟩ ⟨_, rfl, ?_⟩
      exact ⟨fun h => absurd (hc9.symm.trans h) (by decide), fun _ => ⟨by rw [hc9]; rfl, rfl⟩⟩
    · exact absurd hc9 (by unfold cxDisp; repeat' (first | apply sq_ne | (show (0 : Int) ≠ _; decide) | (unfold xnS; split <;> decide) | (unfold xnW; split <;> decide) | (unfold xnT; split <;> decide) | (unfold xnR; split <;> decide) | (unfold xnU; split <;> decide) | (unfold xnB; split <;> decide) | (unfold xnG) | (unfold xnH; split) | (split <;> decide)))
    · refine ⟨15, ⟨[(0, 9, 12, 19)], (0, 9, 15, 13), [], rfl, (fun z hz => by simp only [List.mem_cons, List.not_mem_nil, or_false] at hz; rcases hz with rfl <;> first | exact ⟨by decide, xIOB, by decide +kernel, by decide⟩), by decide, by decide, by decide +kernel, rfl, by decide +kernel⟩, fun q8 => ?_⟩
      refine m_astore_n hC dL_dispute_15 [(3, .ref q8), (0, .ref (g.2.2 0)), (1, .int (z32 t)), (2, .ref (g.2.2 32))] (by decide) rfl ?_
      refine m_iconst (v := 2) hC dL_dispute_16 (by decide) ?_
      refine x_iret hC hR (Or.inl rfl) dL_dispute_17 ⟨Nat.le_of_ble_eq_true rfl, Nat.le_of_ble_eq_true rfl⟩ ⟨_, rfl, ?_⟩
      exact ⟨fun h => absurd (hc9.symm.trans h) (by decide), fun _ => ⟨by rw [hc9]; rfl, rfl⟩⟩
  · obtain ⟨hc9, rfl, rfl⟩ := q9
    refine m_i2l hC dL_dispute_7 (hval hc9) ?_
    refine m_lastore (o := 32) (n := 1) hC rfl dL_dispute_8 (by omega) (by omega) (by decide) ?_
    refine m_goto (tgt := 18) hC dL_dispute_9 (by decide) ?_
    refine m_iconst (v := 0) hC dL_dispute_18 (by decide) ?_
    refine x_iret hC hR (Or.inl rfl) dL_dispute_19 ⟨Nat.le_of_ble_eq_true rfl, Nat.le_of_ble_eq_true rfl⟩ ⟨_, rfl, ?_⟩
    exact ⟨fun _ => ⟨rfl, rfl⟩, fun h => absurd hc9 h⟩
set_option maxHeartbeats 4000000 in
set_option maxRecDepth 100000 in
theorem c_L_settle {g : mG} {S : Mem} {t : Int} (ht : -2147483648 ≤ t ∧ t < 2147483648) {z : Int} (hz : z = 0 ∨ z = 1) (hg : Rg S) (hok : OkD (S 8)) (hfz : Fz (S 8) (S 10)) (hrw : rw8 S) (hval : cxSett S t = 0 → -2147483648 ≤ moSC S t z ∧ moSC S t z < 2147483648) (l : Launch) : DoesX l yL_settle wsL_settle ({ frames := 8, cells := 2, slots := 12, locals := 137 } : Room) g [.ref (g.2.2 0), .int (z32 t), .int (z32 z), .ref (g.2.2 32)] S (WP tr12 S (cxSett S t) (moSC S t z) (stSettC S t z)) (fun _ _ => False) := by
  refine DoesX.ofH (hh := [(0, 10, 13, 19), (0, 10, 17, 13)]) (cc := cL_settle) (maxL := 5) (ret := (some .int)) (own := RL) (by decide) rfl rfl (Nat.le_of_ble_eq_true rfl) ?_
  intro C hC hX hR
  show MW C g 5 (0, 0) 0 [(0, .ref (g.2.2 0)), (1, .int (z32 t)), (2, .int (z32 z)), (3, .ref (g.2.2 32))] [] S
  refine m_aload_n hC dL_settle_0 3 rfl ?_
  refine m_iconst (v := 0) hC dL_settle_1 (by decide) ?_
  refine m_aload_n hC dL_settle_2 0 rfl ?_
  refine m_iload_n hC dL_settle_3 1 rfl ?_
  refine m_iload_n hC dL_settle_4 2 rfl ?_
  refine x_callC (n := 2) hC hX (c_X4_settle ht hz hg hok hfz hrw) gL_settle_X4_settle rfl dL_settle_5 rfl rfl (by decide +kernel) ⟨Nat.le_of_ble_eq_true rfl, Nat.le_of_ble_eq_true rfl⟩ rfl (Nat.le_of_ble_eq_true rfl) ⟨Nat.le_of_ble_eq_true rfl, Nat.le_of_ble_eq_true rfl⟩ rfl (fun E9 S9 q9 => ?_) (fun r9 S9 q9 => ?_)
  · obtain ⟨rfl, q9⟩ := q9
    rcases q9 with ⟨hc9, rfl⟩ | ⟨hc9, rfl⟩ | ⟨hc9, rfl⟩
    · refine ⟨13, ⟨[], (0, 10, 13, 19), [(0, 10, 17, 13)], rfl, (fun z hz => nomatch hz), by decide, by decide, by decide +kernel, rfl, by decide +kernel⟩, fun q8 => ?_⟩
      refine m_astore hC dL_settle_13 [(4, .ref q8), (0, .ref (g.2.2 0)), (1, .int (z32 t)), (2, .int (z32 z)), (3, .ref (g.2.2 32))] (by decide) rfl ?_
      refine m_iconst (v := 1) hC dL_settle_15 (by decide) ?_
      refine x_iret hC hR (Or.inl rfl) dL_settle_16 ⟨Nat.le_of_ble_eq_true rfl, Nat.le_of_ble_eq_true rfl⟩ ⟨_, rfl, ?_⟩
      exact ⟨fun h => absurd (hc9.symm.trans h) (by decide), fun _ => ⟨by rw [hc9]; rfl, rfl⟩⟩
    · exact absurd hc9 (by unfold cxSett; repeat' (first | apply sq_ne | (show (0 : Int) ≠ _; decide) | (unfold xnS; split <;> decide) | (unfold xnW; split <;> decide) | (unfold xnT; split <;> decide) | (unfold xnR; split <;> decide) | (unfold xnU; split <;> decide) | (unfold xnB; split <;> decide) | (unfold xnG) | (unfold xnH; split) | (split <;> decide)))
    · refine ⟨17, ⟨[(0, 10, 13, 19)], (0, 10, 17, 13), [], rfl, (fun z hz => by simp only [List.mem_cons, List.not_mem_nil, or_false] at hz; rcases hz with rfl <;> first | exact ⟨by decide, xIOB, by decide +kernel, by decide⟩), by decide, by decide, by decide +kernel, rfl, by decide +kernel⟩, fun q8 => ?_⟩
      refine m_astore hC dL_settle_17 [(4, .ref q8), (0, .ref (g.2.2 0)), (1, .int (z32 t)), (2, .int (z32 z)), (3, .ref (g.2.2 32))] (by decide) rfl ?_
      refine m_iconst (v := 2) hC dL_settle_19 (by decide) ?_
      refine x_iret hC hR (Or.inl rfl) dL_settle_20 ⟨Nat.le_of_ble_eq_true rfl, Nat.le_of_ble_eq_true rfl⟩ ⟨_, rfl, ?_⟩
      exact ⟨fun h => absurd (hc9.symm.trans h) (by decide), fun _ => ⟨by rw [hc9]; rfl, rfl⟩⟩
  · obtain ⟨hc9, rfl, rfl⟩ := q9
    refine m_i2l hC dL_settle_8 (hval hc9) ?_
    refine m_lastore (o := 32) (n := 1) hC rfl dL_settle_9 (by omega) (by omega) (by decide) ?_
    refine m_goto (tgt := 21) hC dL_settle_10 (by decide) ?_
    refine m_iconst (v := 0) hC dL_settle_21 (by decide) ?_
    refine x_iret hC hR (Or.inl rfl) dL_settle_22 ⟨Nat.le_of_ble_eq_true rfl, Nat.le_of_ble_eq_true rfl⟩ ⟨_, rfl, ?_⟩
    exact ⟨fun _ => ⟨rfl, rfl⟩, fun h => absurd hc9 h⟩
set_option maxHeartbeats 4000000 in
set_option maxRecDepth 100000 in
theorem c_L_guarantee {g : mG} {S : Mem} {f : Int} (hf : -2147483648 ≤ f ∧ f < 2147483648) {s : Int} (hs : -2147483648 ≤ s ∧ s < 2147483648) {a : Int} (ha : -2147483648 ≤ a ∧ a < 2147483648) (hg : Rg S) (hok : OkD (S 8)) (hfz : Fz (S 8) (S 10)) (hgu : OkD (S 12)) (hlr : ∀ s, 0 ≤ s → s < 9 → -1000000 ≤ lim S s ∧ lim S s ≤ 1000000) (hval : cxGuar S f s a = 0 → -2147483648 ≤ S 12 (ix f s) + a ∧ S 12 (ix f s) + a < 2147483648) (l : Launch) : DoesX l yL_guarantee wsL_guarantee ({ frames := 9, cells := 5, slots := 30, locals := 182 } : Room) g [.ref (g.2.2 0), .int (z32 f), .int (z32 s), .int (z32 a), .ref (g.2.2 32)] S (WP tr123 S (cxGuar S f s a) (S 12 (ix f s) + a) (mput S 12 (adF (S 12) f s a))) (fun _ _ => False) := by
  refine DoesX.ofH (hh := [(0, 12, 15, 19), (0, 12, 19, 25), (0, 12, 23, 13)]) (cc := cL_guarantee) (maxL := 6) (ret := (some .int)) (own := RL) (by decide) rfl rfl (Nat.le_of_ble_eq_true rfl) ?_
  intro C hC hX hR
  show MW C g 6 (0, 0) 0 [(0, .ref (g.2.2 0)), (1, .int (z32 f)), (2, .int (z32 s)), (3, .int (z32 a)), (4, .ref (g.2.2 32))] [] S
  refine m_aload hC dL_guarantee_0 4 rfl ?_
  refine m_iconst (v := 0) hC dL_guarantee_2 (by decide) ?_
  refine m_aload_n hC dL_guarantee_3 0 rfl ?_
  refine m_iload_n hC dL_guarantee_4 1 rfl ?_
  refine m_iload_n hC dL_guarantee_5 2 rfl ?_
  refine m_iload_n hC dL_guarantee_6 3 rfl ?_
  refine x_callC (n := 3) hC hX (c_X4_guarantee hf hs ha hg hok hfz hgu hlr) gL_guarantee_X4_guarantee rfl dL_guarantee_7 rfl rfl (by decide +kernel) ⟨Nat.le_of_ble_eq_true rfl, Nat.le_of_ble_eq_true rfl⟩ rfl (Nat.le_of_ble_eq_true rfl) ⟨Nat.le_of_ble_eq_true rfl, Nat.le_of_ble_eq_true rfl⟩ rfl (fun E9 S9 q9 => ?_) (fun r9 S9 q9 => ?_)
  · obtain ⟨rfl, q9⟩ := q9
    rcases q9 with ⟨hc9, rfl⟩ | ⟨hc9, rfl⟩ | ⟨hc9, rfl⟩
    · refine ⟨15, ⟨[], (0, 12, 15, 19), [(0, 12, 19, 25), (0, 12, 23, 13)], rfl, (fun z hz => nomatch hz), by decide, by decide, by decide +kernel, rfl, by decide +kernel⟩, fun q8 => ?_⟩
      refine m_astore hC dL_guarantee_15 [(5, .ref q8), (0, .ref (g.2.2 0)), (1, .int (z32 f)), (2, .int (z32 s)), (3, .int (z32 a)), (4, .ref (g.2.2 32))] (by decide) rfl ?_
      refine m_iconst (v := 1) hC dL_guarantee_17 (by decide) ?_
      refine x_iret hC hR (Or.inl rfl) dL_guarantee_18 ⟨Nat.le_of_ble_eq_true rfl, Nat.le_of_ble_eq_true rfl⟩ ⟨_, rfl, ?_⟩
      exact ⟨fun h => absurd (hc9.symm.trans h) (by decide), fun _ => ⟨by rw [hc9]; rfl, rfl⟩⟩
    · refine ⟨19, ⟨[(0, 12, 15, 19)], (0, 12, 19, 25), [(0, 12, 23, 13)], rfl, (fun z hz => by simp only [List.mem_cons, List.not_mem_nil, or_false] at hz; rcases hz with rfl <;> first | exact ⟨by decide, xIOB, by decide +kernel, by decide⟩), by decide, by decide, by decide +kernel, rfl, by decide +kernel⟩, fun q8 => ?_⟩
      refine m_astore hC dL_guarantee_19 [(5, .ref q8), (0, .ref (g.2.2 0)), (1, .int (z32 f)), (2, .int (z32 s)), (3, .int (z32 a)), (4, .ref (g.2.2 32))] (by decide) rfl ?_
      refine m_iconst (v := 2) hC dL_guarantee_21 (by decide) ?_
      refine x_iret hC hR (Or.inl rfl) dL_guarantee_22 ⟨Nat.le_of_ble_eq_true rfl, Nat.le_of_ble_eq_true rfl⟩ ⟨_, rfl, ?_⟩
      exact ⟨fun h => absurd (hc9.symm.trans h) (by decide), fun _ => ⟨by rw [hc9]; rfl, rfl⟩⟩
    · refine ⟨23, ⟨[(0, 12, 15, 19), (0, 12, 19, 25)], (0, 12, 23, 13), [], rfl, (fun z hz => by simp only [List.mem_cons, List.not_mem_nil, or_false] at hz; rcases hz with rfl | rfl <;> first | exact ⟨by decide, xIOB, by decide +kernel, by decide⟩ | exact ⟨by decide, xIAE, by decide +kernel, by decide⟩), by decide, by decide, by decide +kernel, rfl, by decide +kernel⟩, fun q8 => ?_⟩
      refine m_astore hC dL_guarantee_23 [(5, .ref q8), (0, .ref (g.2.2 0)), (1, .int (z32 f)), (2, .int (z32 s)), (3, .int (z32 a)), (4, .ref (g.2.2 32))] (by decide) rfl ?_
      refine m_iconst (v := 3) hC dL_guarantee_25 (by decide) ?_
      refine x_iret hC hR (Or.inl rfl) dL_guarantee_26 ⟨Nat.le_of_ble_eq_true rfl, Nat.le_of_ble_eq_true rfl⟩ ⟨_, rfl, ?_⟩
      exact ⟨fun h => absurd (hc9.symm.trans h) (by decide), fun _ => ⟨by rw [hc9]; rfl, rfl⟩⟩
  · obtain ⟨hc9, rfl, rfl⟩ := q9
    refine m_i2l hC dL_guarantee_10 (hval hc9) ?_
    refine m_lastore (o := 32) (n := 1) hC rfl dL_guarantee_11 (by omega) (by omega) (by decide) ?_
    refine m_goto (tgt := 27) hC dL_guarantee_12 (by decide) ?_
    refine m_iconst (v := 0) hC dL_guarantee_27 (by decide) ?_
    refine x_iret hC hR (Or.inl rfl) dL_guarantee_28 ⟨Nat.le_of_ble_eq_true rfl, Nat.le_of_ble_eq_true rfl⟩ ⟨_, rfl, ?_⟩
    exact ⟨fun _ => ⟨rfl, rfl⟩, fun h => absurd hc9 h⟩
set_option maxHeartbeats 4000000 in
set_option maxRecDepth 100000 in
theorem c_L_revoke {g : mG} {S : Mem} {f : Int} (hf : -2147483648 ≤ f ∧ f < 2147483648) {s : Int} (hs : -2147483648 ≤ s ∧ s < 2147483648) {a : Int} (ha : -2147483648 ≤ a ∧ a < 2147483648) (hg : Rg S) (hok : OkD (S 8)) (hfz : Fz (S 8) (S 10)) (hgu : OkD (S 12)) (hlr : ∀ s, 0 ≤ s → s < 9 → -1000000 ≤ lim S s ∧ lim S s ≤ 1000000) (hval : cxRevo S f s a = 0 → -2147483648 ≤ S 12 (ix f s) + (-a) ∧ S 12 (ix f s) + (-a) < 2147483648) (l : Launch) : DoesX l yL_revoke wsL_revoke ({ frames := 9, cells := 5, slots := 30, locals := 182 } : Room) g [.ref (g.2.2 0), .int (z32 f), .int (z32 s), .int (z32 a), .ref (g.2.2 32)] S (WP tr123 S (cxRevo S f s a) (S 12 (ix f s) + (-a)) (mput S 12 (adF (S 12) f s (-a)))) (fun _ _ => False) := by
  refine DoesX.ofH (hh := [(0, 12, 15, 19), (0, 12, 19, 25), (0, 12, 23, 13)]) (cc := cL_revoke) (maxL := 6) (ret := (some .int)) (own := RL) (by decide) rfl rfl (Nat.le_of_ble_eq_true rfl) ?_
  intro C hC hX hR
  show MW C g 6 (0, 0) 0 [(0, .ref (g.2.2 0)), (1, .int (z32 f)), (2, .int (z32 s)), (3, .int (z32 a)), (4, .ref (g.2.2 32))] [] S
  refine m_aload hC dL_revoke_0 4 rfl ?_
  refine m_iconst (v := 0) hC dL_revoke_2 (by decide) ?_
  refine m_aload_n hC dL_revoke_3 0 rfl ?_
  refine m_iload_n hC dL_revoke_4 1 rfl ?_
  refine m_iload_n hC dL_revoke_5 2 rfl ?_
  refine m_iload_n hC dL_revoke_6 3 rfl ?_
  refine x_callC (n := 3) hC hX (c_X4_revoke hf hs ha hg hok hfz hgu hlr) gL_revoke_X4_revoke rfl dL_revoke_7 rfl rfl (by decide +kernel) ⟨Nat.le_of_ble_eq_true rfl, Nat.le_of_ble_eq_true rfl⟩ rfl (Nat.le_of_ble_eq_true rfl) ⟨Nat.le_of_ble_eq_true rfl, Nat.le_of_ble_eq_true rfl⟩ rfl (fun E9 S9 q9 => ?_) (fun r9 S9 q9 => ?_)
  · obtain ⟨rfl, q9⟩ := q9
    rcases q9 with ⟨hc9, rfl⟩ | ⟨hc9, rfl⟩ | ⟨hc9, rfl⟩
    · refine ⟨15, ⟨[], (0, 12, 15, 19), [(0, 12, 19, 25), (0, 12, 23, 13)], rfl, (fun z hz => nomatch hz), by decide, by decide, by decide +kernel, rfl, by decide +kernel⟩, fun q8 => ?_⟩
      refine m_astore hC dL_revoke_15 [(5, .ref q8), (0, .ref (g.2.2 0)), (1, .int (z32 f)), (2, .int (z32 s)), (3, .int (z32 a)), (4, .ref (g.2.2 32))] (by decide) rfl ?_
      refine m_iconst (v := 1) hC dL_revoke_17 (by decide) ?_
      refine x_iret hC hR (Or.inl rfl) dL_revoke_18 ⟨Nat.le_of_ble_eq_true rfl, Nat.le_of_ble_eq_true rfl⟩ ⟨_, rfl, ?_⟩
      exact ⟨fun h => absurd (hc9.symm.trans h) (by decide), fun _ => ⟨by rw [hc9]; rfl, rfl⟩⟩
    · refine ⟨19, ⟨[(0, 12, 15, 19)], (0, 12, 19, 25), [(0, 12, 23, 13)], rfl, (fun z hz => by simp only [List.mem_cons, List.not_mem_nil, or_false] at hz; rcases hz with rfl <;> first | exact ⟨by decide, xIOB, by decide +kernel, by decide⟩), by decide, by decide, by decide +kernel, rfl, by decide +kernel⟩, fun q8 => ?_⟩
      refine m_astore hC dL_revoke_19 [(5, .ref q8), (0, .ref (g.2.2 0)), (1, .int (z32 f)), (2, .int (z32 s)), (3, .int (z32 a)), (4, .ref (g.2.2 32))] (by decide) rfl ?_
      refine m_iconst (v := 2) hC dL_revoke_21 (by decide) ?_
      refine x_iret hC hR (Or.inl rfl) dL_revoke_22 ⟨Nat.le_of_ble_eq_true rfl, Nat.le_of_ble_eq_true rfl⟩ ⟨_, rfl, ?_⟩
      exact ⟨fun h => absurd (hc9.symm.trans h) (by decide), fun _ => ⟨by rw [hc9]; rfl, rfl⟩⟩
    · refine ⟨23, ⟨[(0, 12, 15, 19), (0, 12, 19, 25)], (0, 12, 23, 13), [], rfl, (fun z hz => by simp only [List.mem_cons, List.not_mem_nil, or_false] at hz; rcases hz with rfl | rfl <;> first | exact ⟨by decide, xIOB, by decide +kernel, by decide⟩ | exact ⟨by decide, xIAE, by decide +kernel, by decide⟩), by decide, by decide, by decide +kernel, rfl, by decide +kernel⟩, fun q8 => ?_⟩
      refine m_astore hC dL_revoke_23 [(5, .ref q8), (0, .ref (g.2.2 0)), (1, .int (z32 f)), (2, .int (z32 s)), (3, .int (z32 a)), (4, .ref (g.2.2 32))] (by decide) rfl ?_
      refine m_iconst (v := 3) hC dL_revoke_25 (by decide) ?_
      refine x_iret hC hR (Or.inl rfl) dL_revoke_26 ⟨Nat.le_of_ble_eq_true rfl, Nat.le_of_ble_eq_true rfl⟩ ⟨_, rfl, ?_⟩
      exact ⟨fun h => absurd (hc9.symm.trans h) (by decide), fun _ => ⟨by rw [hc9]; rfl, rfl⟩⟩
  · obtain ⟨hc9, rfl, rfl⟩ := q9
    refine m_i2l hC dL_revoke_10 (hval hc9) ?_
    refine m_lastore (o := 32) (n := 1) hC rfl dL_revoke_11 (by omega) (by omega) (by decide) ?_
    refine m_goto (tgt := 27) hC dL_revoke_12 (by decide) ?_
    refine m_iconst (v := 0) hC dL_revoke_27 (by decide) ?_
    refine x_iret hC hR (Or.inl rfl) dL_revoke_28 ⟨Nat.le_of_ble_eq_true rfl, Nat.le_of_ble_eq_true rfl⟩ ⟨_, rfl, ?_⟩
    exact ⟨fun _ => ⟨rfl, rfl⟩, fun h => absurd hc9 h⟩
set_option maxHeartbeats 4000000 in
set_option maxRecDepth 100000 in
theorem c_L_fee {g : mG} {S : Mem} {x : Int} (hx : -2147483648 ≤ x ∧ x < 2147483648) (hg : Rg S) (hval : cxFee S x = 0 → -2147483648 ≤ S 0 8 ∧ S 0 8 < 2147483648) (l : Launch) : DoesX l yL_fee wsL_fee ({ frames := 8, cells := 1, slots := 6, locals := 134 } : Room) g [.ref (g.2.2 0), .int (z32 x), .ref (g.2.2 32)] S (WP trOne S (cxFee S x) (S 0 8) (mset S 0 8 x)) (fun _ _ => False) := by
  refine DoesX.ofH (hh := [(0, 9, 12, 25)]) (cc := cL_fee) (maxL := 4) (ret := (some .int)) (own := RL) (by decide) rfl rfl (Nat.le_of_ble_eq_true rfl) ?_
  intro C hC hX hR
  show MW C g 4 (0, 0) 0 [(0, .ref (g.2.2 0)), (1, .int (z32 x)), (2, .ref (g.2.2 32))] [] S
  refine m_aload_n hC dL_fee_0 2 rfl ?_
  refine m_iconst (v := 0) hC dL_fee_1 (by decide) ?_
  refine m_aload_n hC dL_fee_2 0 rfl ?_
  refine m_iload_n hC dL_fee_3 1 rfl ?_
  refine x_callC (n := 1) hC hX (c_X4_fee hx hg) gL_fee_X4_fee rfl dL_fee_4 rfl rfl (by decide +kernel) ⟨Nat.le_of_ble_eq_true rfl, Nat.le_of_ble_eq_true rfl⟩ rfl (Nat.le_of_ble_eq_true rfl) ⟨Nat.le_of_ble_eq_true rfl, Nat.le_of_ble_eq_true rfl⟩ rfl (fun E9 S9 q9 => ?_) (fun r9 S9 q9 => ?_)
  · obtain ⟨rfl, q9⟩ := q9
    rcases q9 with ⟨hc9, rfl⟩ | ⟨hc9, rfl⟩ | ⟨hc9, rfl⟩
    · exact absurd hc9 (by unfold cxFee; repeat' (first | apply sq_ne | (show (0 : Int) ≠ _; decide) | (unfold xnS; split <;> decide) | (unfold xnW; split <;> decide) | (unfold xnT; split <;> decide) | (unfold xnR; split <;> decide) | (unfold xnU; split <;> decide) | (unfold xnB; split <;> decide) | (unfold xnG) | (unfold xnH; split) | (split <;> decide)))
    · refine ⟨12, ⟨[], (0, 9, 12, 25), [], rfl, (fun z hz => nomatch hz), by decide, by decide, by decide +kernel, rfl, by decide +kernel⟩, fun q8 => ?_⟩
      refine m_astore_n hC dL_fee_12 [(3, .ref q8), (0, .ref (g.2.2 0)), (1, .int (z32 x)), (2, .ref (g.2.2 32))] (by decide) rfl ?_
      refine m_iconst (v := 1) hC dL_fee_13 (by decide) ?_
      refine x_iret hC hR (Or.inl rfl) dL_fee_14 ⟨Nat.le_of_ble_eq_true rfl, Nat.le_of_ble_eq_true rfl⟩ ⟨_, rfl, ?_⟩
      exact ⟨fun h => absurd (hc9.symm.trans h) (by decide), fun _ => ⟨by rw [hc9]; rfl, rfl⟩⟩
    · exact absurd hc9 (by unfold cxFee; repeat' (first | apply sq_ne | (show (0 : Int) ≠ _; decide) | (unfold xnS; split <;> decide) | (unfold xnW; split <;> decide) | (unfold xnT; split <;> decide) | (unfold xnR; split <;> decide) | (unfold xnU; split <;> decide) | (unfold xnB; split <;> decide) | (unfold xnG) | (unfold xnH; split) | (split <;> decide)))
  · obtain ⟨hc9, rfl, rfl⟩ := q9
    refine m_i2l hC dL_fee_7 (hval hc9) ?_
    refine m_lastore (o := 32) (n := 1) hC rfl dL_fee_8 (by omega) (by omega) (by decide) ?_
    refine m_goto (tgt := 15) hC dL_fee_9 (by decide) ?_
    refine m_iconst (v := 0) hC dL_fee_15 (by decide) ?_
    refine x_iret hC hR (Or.inl rfl) dL_fee_16 ⟨Nat.le_of_ble_eq_true rfl, Nat.le_of_ble_eq_true rfl⟩ ⟨_, rfl, ?_⟩
    exact ⟨fun _ => ⟨rfl, rfl⟩, fun h => absurd hc9 h⟩
set_option maxHeartbeats 4000000 in
set_option maxRecDepth 100000 in
theorem c_L_night {g : mG} {S : Mem} {x : Int} (hx : -2147483648 ≤ x ∧ x < 2147483648) (hgd : nGdC S) (ht : S 0 7 + 20 ≤ 20000) (hval : cxNight x = 0 → ∀ v S', (fun v S' => v = S' 0 7 ∧ ngC x.toNat S S') v S' → -2147483648 ≤ v ∧ v < 2147483648) (l : Launch) : DoesX l yL_night wsL_night ({ frames := 11, cells := 1, slots := 6, locals := 265 } : Room) g [.ref (g.2.2 0), .int (z32 x), .ref (g.2.2 32)] S (WPx trOne S (cxNight x) (fun v S' => v = S' 0 7 ∧ ngC x.toNat S S')) (fun _ _ => False) := by
  refine DoesX.ofH (hh := [(0, 9, 12, 25)]) (cc := cL_night) (maxL := 4) (ret := (some .int)) (own := RL) (by decide) rfl rfl (Nat.le_of_ble_eq_true rfl) ?_
  intro C hC hX hR
  show MW C g 4 (0, 0) 0 [(0, .ref (g.2.2 0)), (1, .int (z32 x)), (2, .ref (g.2.2 32))] [] S
  refine m_aload_n hC dL_night_0 2 rfl ?_
  refine m_iconst (v := 0) hC dL_night_1 (by decide) ?_
  refine m_aload_n hC dL_night_2 0 rfl ?_
  refine m_iload_n hC dL_night_3 1 rfl ?_
  refine x_callC (n := 1) hC hX (c_X4_night hx hgd ht) gL_night_X4_night rfl dL_night_4 rfl rfl (by decide +kernel) ⟨Nat.le_of_ble_eq_true rfl, Nat.le_of_ble_eq_true rfl⟩ rfl (Nat.le_of_ble_eq_true rfl) ⟨Nat.le_of_ble_eq_true rfl, Nat.le_of_ble_eq_true rfl⟩ rfl (fun E9 S9 q9 => ?_) (fun r9 S9 q9 => ?_)
  · obtain ⟨rfl, q9⟩ := q9
    rcases q9 with ⟨hc9, rfl⟩ | ⟨hc9, rfl⟩ | ⟨hc9, rfl⟩
    · exact absurd hc9 (by unfold cxNight; repeat' (first | apply sq_ne | (show (0 : Int) ≠ _; decide) | (unfold xnS; split <;> decide) | (unfold xnW; split <;> decide) | (unfold xnT; split <;> decide) | (unfold xnR; split <;> decide) | (unfold xnU; split <;> decide) | (unfold xnB; split <;> decide) | (unfold xnG) | (unfold xnH; split) | (split <;> decide)))
    · refine ⟨12, ⟨[], (0, 9, 12, 25), [], rfl, (fun z hz => nomatch hz), by decide, by decide, by decide +kernel, rfl, by decide +kernel⟩, fun q8 => ?_⟩
      refine m_astore_n hC dL_night_12 [(3, .ref q8), (0, .ref (g.2.2 0)), (1, .int (z32 x)), (2, .ref (g.2.2 32))] (by decide) rfl ?_
      refine m_iconst (v := 1) hC dL_night_13 (by decide) ?_
      refine x_iret hC hR (Or.inl rfl) dL_night_14 ⟨Nat.le_of_ble_eq_true rfl, Nat.le_of_ble_eq_true rfl⟩ ⟨_, rfl, ?_⟩
      exact ⟨fun h => absurd (hc9.symm.trans h) (by decide), fun _ => ⟨by rw [hc9]; rfl, rfl⟩⟩
    · exact absurd hc9 (by unfold cxNight; repeat' (first | apply sq_ne | (show (0 : Int) ≠ _; decide) | (unfold xnS; split <;> decide) | (unfold xnW; split <;> decide) | (unfold xnT; split <;> decide) | (unfold xnR; split <;> decide) | (unfold xnU; split <;> decide) | (unfold xnB; split <;> decide) | (unfold xnG) | (unfold xnH; split) | (split <;> decide)))
  · obtain ⟨hc9, v9, rfl, hv9⟩ := q9
    refine m_i2l hC dL_night_7 (hval hc9 _ _ hv9) ?_
    refine m_lastore (o := 32) (n := 1) hC rfl dL_night_8 (by omega) (by omega) (by decide) ?_
    refine m_goto (tgt := 15) hC dL_night_9 (by decide) ?_
    refine m_iconst (v := 0) hC dL_night_15 (by decide) ?_
    refine x_iret hC hR (Or.inl rfl) dL_night_16 ⟨Nat.le_of_ble_eq_true rfl, Nat.le_of_ble_eq_true rfl⟩ ⟨_, rfl, ?_⟩
    exact ⟨fun _ => ⟨rfl, _, _, hv9, rfl⟩, fun h => absurd hc9 h⟩
set_option maxHeartbeats 4000000 in
set_option maxRecDepth 100000 in
theorem c_L_balance {g : mG} {S : Mem} {x : Int} (hx : -2147483648 ≤ x ∧ x < 2147483648) (hg : Rg S) (hval : cxBal S x = 0 → -2147483648 ≤ bl (S 8) x ∧ bl (S 8) x < 2147483648) (l : Launch) : DoesX l yL_balance wsL_balance ({ frames := 9, cells := 1, slots := 6, locals := 153 } : Room) g [.ref (g.2.2 0), .int (z32 x), .ref (g.2.2 32)] S (WP trOne S (cxBal S x) (bl (S 8) x) (S)) (fun _ _ => False) := by
  refine DoesX.ofH (hh := [(0, 9, 12, 19)]) (cc := cL_balance) (maxL := 4) (ret := (some .int)) (own := RL) (by decide) rfl rfl (Nat.le_of_ble_eq_true rfl) ?_
  intro C hC hX hR
  show MW C g 4 (0, 0) 0 [(0, .ref (g.2.2 0)), (1, .int (z32 x)), (2, .ref (g.2.2 32))] [] S
  refine m_aload_n hC dL_balance_0 2 rfl ?_
  refine m_iconst (v := 0) hC dL_balance_1 (by decide) ?_
  refine m_aload_n hC dL_balance_2 0 rfl ?_
  refine m_iload_n hC dL_balance_3 1 rfl ?_
  refine x_callC (n := 1) hC hX (c_X4_balance hx hg) gL_balance_X4_balance rfl dL_balance_4 rfl rfl (by decide +kernel) ⟨Nat.le_of_ble_eq_true rfl, Nat.le_of_ble_eq_true rfl⟩ rfl (Nat.le_of_ble_eq_true rfl) ⟨Nat.le_of_ble_eq_true rfl, Nat.le_of_ble_eq_true rfl⟩ rfl (fun E9 S9 q9 => ?_) (fun r9 S9 q9 => ?_)
  · obtain ⟨rfl, q9⟩ := q9
    rcases q9 with ⟨hc9, rfl⟩ | ⟨hc9, rfl⟩ | ⟨hc9, rfl⟩
    · refine ⟨12, ⟨[], (0, 9, 12, 19), [], rfl, (fun z hz => nomatch hz), by decide, by decide, by decide +kernel, rfl, by decide +kernel⟩, fun q8 => ?_⟩
      refine m_astore_n hC dL_balance_12 [(3, .ref q8), (0, .ref (g.2.2 0)), (1, .int (z32 x)), (2, .ref (g.2.2 32))] (by decide) rfl ?_
      refine m_iconst (v := 1) hC dL_balance_13 (by decide) ?_
      refine x_iret hC hR (Or.inl rfl) dL_balance_14 ⟨Nat.le_of_ble_eq_true rfl, Nat.le_of_ble_eq_true rfl⟩ ⟨_, rfl, ?_⟩
      exact ⟨fun h => absurd (hc9.symm.trans h) (by decide), fun _ => ⟨by rw [hc9]; rfl, rfl⟩⟩
    · exact absurd hc9 (by unfold cxBal; repeat' (first | apply sq_ne | (show (0 : Int) ≠ _; decide) | (unfold xnS; split <;> decide) | (unfold xnW; split <;> decide) | (unfold xnT; split <;> decide) | (unfold xnR; split <;> decide) | (unfold xnU; split <;> decide) | (unfold xnB; split <;> decide) | (unfold xnG) | (unfold xnH; split) | (split <;> decide)))
    · exact absurd hc9 (by unfold cxBal; repeat' (first | apply sq_ne | (show (0 : Int) ≠ _; decide) | (unfold xnS; split <;> decide) | (unfold xnW; split <;> decide) | (unfold xnT; split <;> decide) | (unfold xnR; split <;> decide) | (unfold xnU; split <;> decide) | (unfold xnB; split <;> decide) | (unfold xnG) | (unfold xnH; split) | (split <;> decide)))
  · obtain ⟨hc9, rfl, rfl⟩ := q9
    refine m_i2l hC dL_balance_7 (hval hc9) ?_
    refine m_lastore (o := 32) (n := 1) hC rfl dL_balance_8 (by omega) (by omega) (by decide) ?_
    refine m_goto (tgt := 15) hC dL_balance_9 (by decide) ?_
    refine m_iconst (v := 0) hC dL_balance_15 (by decide) ?_
    refine x_iret hC hR (Or.inl rfl) dL_balance_16 ⟨Nat.le_of_ble_eq_true rfl, Nat.le_of_ble_eq_true rfl⟩ ⟨_, rfl, ?_⟩
    exact ⟨fun _ => ⟨rfl, rfl⟩, fun h => absurd hc9 h⟩
set_option maxHeartbeats 4000000 in
set_option maxRecDepth 100000 in
theorem c_L_balanceAnew {g : mG} {S : Mem} {x : Int} (hx : -2147483648 ≤ x ∧ x < 2147483648) (hg : Rg S) (hval : cxBal S x = 0 → -2147483648 ≤ sI (balF S x) (S 3 1).toNat + col (S 14) x - row (S 14) x ∧ sI (balF S x) (S 3 1).toNat + col (S 14) x - row (S 14) x < 2147483648) (l : Launch) : DoesX l yL_balanceAnew wsL_balanceAnew ({ frames := 9, cells := 1, slots := 6, locals := 153 } : Room) g [.ref (g.2.2 0), .int (z32 x), .ref (g.2.2 32)] S (WP trOne S (cxBal S x) (sI (balF S x) (S 3 1).toNat + col (S 14) x - row (S 14) x) (S)) (fun _ _ => False) := by
  refine DoesX.ofH (hh := [(0, 9, 12, 19)]) (cc := cL_balanceAnew) (maxL := 4) (ret := (some .int)) (own := RL) (by decide) rfl rfl (Nat.le_of_ble_eq_true rfl) ?_
  intro C hC hX hR
  show MW C g 4 (0, 0) 0 [(0, .ref (g.2.2 0)), (1, .int (z32 x)), (2, .ref (g.2.2 32))] [] S
  refine m_aload_n hC dL_balanceAnew_0 2 rfl ?_
  refine m_iconst (v := 0) hC dL_balanceAnew_1 (by decide) ?_
  refine m_aload_n hC dL_balanceAnew_2 0 rfl ?_
  refine m_iload_n hC dL_balanceAnew_3 1 rfl ?_
  refine x_callC (n := 1) hC hX (c_X4_balanceAnew hx hg) gL_balanceAnew_X4_balanceAnew rfl dL_balanceAnew_4 rfl rfl (by decide +kernel) ⟨Nat.le_of_ble_eq_true rfl, Nat.le_of_ble_eq_true rfl⟩ rfl (Nat.le_of_ble_eq_true rfl) ⟨Nat.le_of_ble_eq_true rfl, Nat.le_of_ble_eq_true rfl⟩ rfl (fun E9 S9 q9 => ?_) (fun r9 S9 q9 => ?_)
  · obtain ⟨rfl, q9⟩ := q9
    rcases q9 with ⟨hc9, rfl⟩ | ⟨hc9, rfl⟩ | ⟨hc9, rfl⟩
    · refine ⟨12, ⟨[], (0, 9, 12, 19), [], rfl, (fun z hz => nomatch hz), by decide, by decide, by decide +kernel, rfl, by decide +kernel⟩, fun q8 => ?_⟩
      refine m_astore_n hC dL_balanceAnew_12 [(3, .ref q8), (0, .ref (g.2.2 0)), (1, .int (z32 x)), (2, .ref (g.2.2 32))] (by decide) rfl ?_
      refine m_iconst (v := 1) hC dL_balanceAnew_13 (by decide) ?_
      refine x_iret hC hR (Or.inl rfl) dL_balanceAnew_14 ⟨Nat.le_of_ble_eq_true rfl, Nat.le_of_ble_eq_true rfl⟩ ⟨_, rfl, ?_⟩
      exact ⟨fun h => absurd (hc9.symm.trans h) (by decide), fun _ => ⟨by rw [hc9]; rfl, rfl⟩⟩
    · exact absurd hc9 (by unfold cxBal; repeat' (first | apply sq_ne | (show (0 : Int) ≠ _; decide) | (unfold xnS; split <;> decide) | (unfold xnW; split <;> decide) | (unfold xnT; split <;> decide) | (unfold xnR; split <;> decide) | (unfold xnU; split <;> decide) | (unfold xnB; split <;> decide) | (unfold xnG) | (unfold xnH; split) | (split <;> decide)))
    · exact absurd hc9 (by unfold cxBal; repeat' (first | apply sq_ne | (show (0 : Int) ≠ _; decide) | (unfold xnS; split <;> decide) | (unfold xnW; split <;> decide) | (unfold xnT; split <;> decide) | (unfold xnR; split <;> decide) | (unfold xnU; split <;> decide) | (unfold xnB; split <;> decide) | (unfold xnG) | (unfold xnH; split) | (split <;> decide)))
  · obtain ⟨hc9, rfl, rfl⟩ := q9
    refine m_i2l hC dL_balanceAnew_7 (hval hc9) ?_
    refine m_lastore (o := 32) (n := 1) hC rfl dL_balanceAnew_8 (by omega) (by omega) (by decide) ?_
    refine m_goto (tgt := 15) hC dL_balanceAnew_9 (by decide) ?_
    refine m_iconst (v := 0) hC dL_balanceAnew_15 (by decide) ?_
    refine x_iret hC hR (Or.inl rfl) dL_balanceAnew_16 ⟨Nat.le_of_ble_eq_true rfl, Nat.le_of_ble_eq_true rfl⟩ ⟨_, rfl, ?_⟩
    exact ⟨fun _ => ⟨rfl, rfl⟩, fun h => absurd hc9 h⟩
set_option maxHeartbeats 4000000 in
set_option maxRecDepth 100000 in
theorem c_L_limit {g : mG} {S : Mem} {x : Int} (hx : -2147483648 ≤ x ∧ x < 2147483648) (hg : Rg S) (hval : cxLim S x = 0 → -2147483648 ≤ lim S x ∧ lim S x < 2147483648) (l : Launch) : DoesX l yL_limit wsL_limit ({ frames := 8, cells := 1, slots := 6, locals := 158 } : Room) g [.ref (g.2.2 0), .int (z32 x), .ref (g.2.2 32)] S (WP trOne S (cxLim S x) (lim S x) (S)) (fun _ _ => False) := by
  refine DoesX.ofH (hh := [(0, 9, 12, 19)]) (cc := cL_limit) (maxL := 4) (ret := (some .int)) (own := RL) (by decide) rfl rfl (Nat.le_of_ble_eq_true rfl) ?_
  intro C hC hX hR
  show MW C g 4 (0, 0) 0 [(0, .ref (g.2.2 0)), (1, .int (z32 x)), (2, .ref (g.2.2 32))] [] S
  refine m_aload_n hC dL_limit_0 2 rfl ?_
  refine m_iconst (v := 0) hC dL_limit_1 (by decide) ?_
  refine m_aload_n hC dL_limit_2 0 rfl ?_
  refine m_iload_n hC dL_limit_3 1 rfl ?_
  refine x_callC (n := 1) hC hX (c_X4_limit hx hg) gL_limit_X4_limit rfl dL_limit_4 rfl rfl (by decide +kernel) ⟨Nat.le_of_ble_eq_true rfl, Nat.le_of_ble_eq_true rfl⟩ rfl (Nat.le_of_ble_eq_true rfl) ⟨Nat.le_of_ble_eq_true rfl, Nat.le_of_ble_eq_true rfl⟩ rfl (fun E9 S9 q9 => ?_) (fun r9 S9 q9 => ?_)
  · obtain ⟨rfl, q9⟩ := q9
    rcases q9 with ⟨hc9, rfl⟩ | ⟨hc9, rfl⟩ | ⟨hc9, rfl⟩
    · refine ⟨12, ⟨[], (0, 9, 12, 19), [], rfl, (fun z hz => nomatch hz), by decide, by decide, by decide +kernel, rfl, by decide +kernel⟩, fun q8 => ?_⟩
      refine m_astore_n hC dL_limit_12 [(3, .ref q8), (0, .ref (g.2.2 0)), (1, .int (z32 x)), (2, .ref (g.2.2 32))] (by decide) rfl ?_
      refine m_iconst (v := 1) hC dL_limit_13 (by decide) ?_
      refine x_iret hC hR (Or.inl rfl) dL_limit_14 ⟨Nat.le_of_ble_eq_true rfl, Nat.le_of_ble_eq_true rfl⟩ ⟨_, rfl, ?_⟩
      exact ⟨fun h => absurd (hc9.symm.trans h) (by decide), fun _ => ⟨by rw [hc9]; rfl, rfl⟩⟩
    · exact absurd hc9 (by unfold cxLim; repeat' (first | apply sq_ne | (show (0 : Int) ≠ _; decide) | (unfold xnS; split <;> decide) | (unfold xnW; split <;> decide) | (unfold xnT; split <;> decide) | (unfold xnR; split <;> decide) | (unfold xnU; split <;> decide) | (unfold xnB; split <;> decide) | (unfold xnG) | (unfold xnH; split) | (split <;> decide)))
    · exact absurd hc9 (by unfold cxLim; repeat' (first | apply sq_ne | (show (0 : Int) ≠ _; decide) | (unfold xnS; split <;> decide) | (unfold xnW; split <;> decide) | (unfold xnT; split <;> decide) | (unfold xnR; split <;> decide) | (unfold xnU; split <;> decide) | (unfold xnB; split <;> decide) | (unfold xnG) | (unfold xnH; split) | (split <;> decide)))
  · obtain ⟨hc9, rfl, rfl⟩ := q9
    refine m_i2l hC dL_limit_7 (hval hc9) ?_
    refine m_lastore (o := 32) (n := 1) hC rfl dL_limit_8 (by omega) (by omega) (by decide) ?_
    refine m_goto (tgt := 15) hC dL_limit_9 (by decide) ?_
    refine m_iconst (v := 0) hC dL_limit_15 (by decide) ?_
    refine x_iret hC hR (Or.inl rfl) dL_limit_16 ⟨Nat.le_of_ble_eq_true rfl, Nat.le_of_ble_eq_true rfl⟩ ⟨_, rfl, ?_⟩
    exact ⟨fun _ => ⟨rfl, rfl⟩, fun h => absurd hc9 h⟩
set_option maxHeartbeats 4000000 in
set_option maxRecDepth 100000 in
theorem c_L_owes {g : mG} {S : Mem} {x : Int} (hx : -2147483648 ≤ x ∧ x < 2147483648) {y : Int} (hy : -2147483648 ≤ y ∧ y < 2147483648) (hg : Rg S) (hval : cxOwes S x y = 0 → -2147483648 ≤ S 8 (ix x y) ∧ S 8 (ix x y) < 2147483648) (l : Launch) : DoesX l yL_owes wsL_owes ({ frames := 9, cells := 2, slots := 12, locals := 154 } : Room) g [.ref (g.2.2 0), .int (z32 x), .int (z32 y), .ref (g.2.2 32)] S (WP trOne S (cxOwes S x y) (S 8 (ix x y)) (S)) (fun _ _ => False) := by
  refine DoesX.ofH (hh := [(0, 10, 13, 19)]) (cc := cL_owes) (maxL := 5) (ret := (some .int)) (own := RL) (by decide) rfl rfl (Nat.le_of_ble_eq_true rfl) ?_
  intro C hC hX hR
  show MW C g 5 (0, 0) 0 [(0, .ref (g.2.2 0)), (1, .int (z32 x)), (2, .int (z32 y)), (3, .ref (g.2.2 32))] [] S
  refine m_aload_n hC dL_owes_0 3 rfl ?_
  refine m_iconst (v := 0) hC dL_owes_1 (by decide) ?_
  refine m_aload_n hC dL_owes_2 0 rfl ?_
  refine m_iload_n hC dL_owes_3 1 rfl ?_
  refine m_iload_n hC dL_owes_4 2 rfl ?_
  refine x_callC (n := 2) hC hX (c_X4_owes hx hy hg) gL_owes_X4_owes rfl dL_owes_5 rfl rfl (by decide +kernel) ⟨Nat.le_of_ble_eq_true rfl, Nat.le_of_ble_eq_true rfl⟩ rfl (Nat.le_of_ble_eq_true rfl) ⟨Nat.le_of_ble_eq_true rfl, Nat.le_of_ble_eq_true rfl⟩ rfl (fun E9 S9 q9 => ?_) (fun r9 S9 q9 => ?_)
  · obtain ⟨rfl, q9⟩ := q9
    rcases q9 with ⟨hc9, rfl⟩ | ⟨hc9, rfl⟩ | ⟨hc9, rfl⟩
    · refine ⟨13, ⟨[], (0, 10, 13, 19), [], rfl, (fun z hz => nomatch hz), by decide, by decide, by decide +kernel, rfl, by decide +kernel⟩, fun q8 => ?_⟩
      refine m_astore hC dL_owes_13 [(4, .ref q8), (0, .ref (g.2.2 0)), (1, .int (z32 x)), (2, .int (z32 y)), (3, .ref (g.2.2 32))] (by decide) rfl ?_
      refine m_iconst (v := 1) hC dL_owes_15 (by decide) ?_
      refine x_iret hC hR (Or.inl rfl) dL_owes_16 ⟨Nat.le_of_ble_eq_true rfl, Nat.le_of_ble_eq_true rfl⟩ ⟨_, rfl, ?_⟩
      exact ⟨fun h => absurd (hc9.symm.trans h) (by decide), fun _ => ⟨by rw [hc9]; rfl, rfl⟩⟩
    · exact absurd hc9 (by unfold cxOwes; repeat' (first | apply sq_ne | (show (0 : Int) ≠ _; decide) | (unfold xnS; split <;> decide) | (unfold xnW; split <;> decide) | (unfold xnT; split <;> decide) | (unfold xnR; split <;> decide) | (unfold xnU; split <;> decide) | (unfold xnB; split <;> decide) | (unfold xnG) | (unfold xnH; split) | (split <;> decide)))
    · exact absurd hc9 (by unfold cxOwes; repeat' (first | apply sq_ne | (show (0 : Int) ≠ _; decide) | (unfold xnS; split <;> decide) | (unfold xnW; split <;> decide) | (unfold xnT; split <;> decide) | (unfold xnR; split <;> decide) | (unfold xnU; split <;> decide) | (unfold xnB; split <;> decide) | (unfold xnG) | (unfold xnH; split) | (split <;> decide)))
  · obtain ⟨hc9, rfl, rfl⟩ := q9
    refine m_i2l hC dL_owes_8 (hval hc9) ?_
    refine m_lastore (o := 32) (n := 1) hC rfl dL_owes_9 (by omega) (by omega) (by decide) ?_
    refine m_goto (tgt := 17) hC dL_owes_10 (by decide) ?_
    refine m_iconst (v := 0) hC dL_owes_17 (by decide) ?_
    refine x_iret hC hR (Or.inl rfl) dL_owes_18 ⟨Nat.le_of_ble_eq_true rfl, Nat.le_of_ble_eq_true rfl⟩ ⟨_, rfl, ?_⟩
    exact ⟨fun _ => ⟨rfl, rfl⟩, fun h => absurd hc9 h⟩
set_option maxHeartbeats 4000000 in
set_option maxRecDepth 100000 in
theorem c_L_frozen {g : mG} {S : Mem} {x : Int} (hx : -2147483648 ≤ x ∧ x < 2147483648) {y : Int} (hy : -2147483648 ≤ y ∧ y < 2147483648) (hg : Rg S) (hval : cxTwo S x y = 0 → -2147483648 ≤ S 10 (ix x y) ∧ S 10 (ix x y) < 2147483648) (l : Launch) : DoesX l yL_frozen wsL_frozen ({ frames := 8, cells := 2, slots := 12, locals := 133 } : Room) g [.ref (g.2.2 0), .int (z32 x), .int (z32 y), .ref (g.2.2 32)] S (WP trOne S (cxTwo S x y) (S 10 (ix x y)) (S)) (fun _ _ => False) := by
  refine DoesX.ofH (hh := [(0, 10, 13, 19)]) (cc := cL_frozen) (maxL := 5) (ret := (some .int)) (own := RL) (by decide) rfl rfl (Nat.le_of_ble_eq_true rfl) ?_
  intro C hC hX hR
  show MW C g 5 (0, 0) 0 [(0, .ref (g.2.2 0)), (1, .int (z32 x)), (2, .int (z32 y)), (3, .ref (g.2.2 32))] [] S
  refine m_aload_n hC dL_frozen_0 3 rfl ?_
  refine m_iconst (v := 0) hC dL_frozen_1 (by decide) ?_
  refine m_aload_n hC dL_frozen_2 0 rfl ?_
  refine m_iload_n hC dL_frozen_3 1 rfl ?_
  refine m_iload_n hC dL_frozen_4 2 rfl ?_
  refine x_callC (n := 2) hC hX (c_X4_frozen hx hy hg) gL_frozen_X4_frozen rfl dL_frozen_5 rfl rfl (by decide +kernel) ⟨Nat.le_of_ble_eq_true rfl, Nat.le_of_ble_eq_true rfl⟩ rfl (Nat.le_of_ble_eq_true rfl) ⟨Nat.le_of_ble_eq_true rfl, Nat.le_of_ble_eq_true rfl⟩ rfl (fun E9 S9 q9 => ?_) (fun r9 S9 q9 => ?_)
  · obtain ⟨rfl, q9⟩ := q9
    rcases q9 with ⟨hc9, rfl⟩ | ⟨hc9, rfl⟩ | ⟨hc9, rfl⟩
    · refine ⟨13, ⟨[], (0, 10, 13, 19), [], rfl, (fun z hz => nomatch hz), by decide, by decide, by decide +kernel, rfl, by decide +kernel⟩, fun q8 => ?_⟩
      refine m_astore hC dL_frozen_13 [(4, .ref q8), (0, .ref (g.2.2 0)), (1, .int (z32 x)), (2, .int (z32 y)), (3, .ref (g.2.2 32))] (by decide) rfl ?_
      refine m_iconst (v := 1) hC dL_frozen_15 (by decide) ?_
      refine x_iret hC hR (Or.inl rfl) dL_frozen_16 ⟨Nat.le_of_ble_eq_true rfl, Nat.le_of_ble_eq_true rfl⟩ ⟨_, rfl, ?_⟩
      exact ⟨fun h => absurd (hc9.symm.trans h) (by decide), fun _ => ⟨by rw [hc9]; rfl, rfl⟩⟩
    · exact absurd hc9 (by unfold cxTwo; repeat' (first | apply sq_ne | (show (0 : Int) ≠ _; decide) | (unfold xnS; split <;> decide) | (unfold xnW; split <;> decide) | (unfold xnT; split <;> decide) | (unfold xnR; split <;> decide) | (unfold xnU; split <;> decide) | (unfold xnB; split <;> decide) | (unfold xnG) | (unfold xnH; split) | (split <;> decide)))
    · exact absurd hc9 (by unfold cxTwo; repeat' (first | apply sq_ne | (show (0 : Int) ≠ _; decide) | (unfold xnS; split <;> decide) | (unfold xnW; split <;> decide) | (unfold xnT; split <;> decide) | (unfold xnR; split <;> decide) | (unfold xnU; split <;> decide) | (unfold xnB; split <;> decide) | (unfold xnG) | (unfold xnH; split) | (split <;> decide)))
  · obtain ⟨hc9, rfl, rfl⟩ := q9
    refine m_i2l hC dL_frozen_8 (hval hc9) ?_
    refine m_lastore (o := 32) (n := 1) hC rfl dL_frozen_9 (by omega) (by omega) (by decide) ?_
    refine m_goto (tgt := 17) hC dL_frozen_10 (by decide) ?_
    refine m_iconst (v := 0) hC dL_frozen_17 (by decide) ?_
    refine x_iret hC hR (Or.inl rfl) dL_frozen_18 ⟨Nat.le_of_ble_eq_true rfl, Nat.le_of_ble_eq_true rfl⟩ ⟨_, rfl, ?_⟩
    exact ⟨fun _ => ⟨rfl, rfl⟩, fun h => absurd hc9 h⟩
set_option maxHeartbeats 4000000 in
set_option maxRecDepth 100000 in
theorem c_L_ofTrade {g : mG} {S : Mem} {t : Int} (ht : -2147483648 ≤ t ∧ t < 2147483648) {w : Int} (hw : -2147483648 ≤ w ∧ w < 2147483648) (hg : Rg S) (hval : cxOfT S t w = 0 → -2147483648 ≤ trd S t w ∧ trd S t w < 2147483648) (l : Launch) : DoesX l yL_ofTrade wsL_ofTrade ({ frames := 8, cells := 2, slots := 12, locals := 134 } : Room) g [.ref (g.2.2 0), .int (z32 t), .int (z32 w), .ref (g.2.2 32)] S (WP tr12 S (cxOfT S t w) (trd S t w) (S)) (fun _ _ => False) := by
  refine DoesX.ofH (hh := [(0, 10, 13, 19), (0, 10, 17, 25)]) (cc := cL_ofTrade) (maxL := 5) (ret := (some .int)) (own := RL) (by decide) rfl rfl (Nat.le_of_ble_eq_true rfl) ?_
  intro C hC hX hR
  show MW C g 5 (0, 0) 0 [(0, .ref (g.2.2 0)), (1, .int (z32 t)), (2, .int (z32 w)), (3, .ref (g.2.2 32))] [] S
  refine m_aload_n hC dL_ofTrade_0 3 rfl ?_
  refine m_iconst (v := 0) hC dL_ofTrade_1 (by decide) ?_
  refine m_aload_n hC dL_ofTrade_2 0 rfl ?_
  refine m_iload_n hC dL_ofTrade_3 1 rfl ?_
  refine m_iload_n hC dL_ofTrade_4 2 rfl ?_
  refine x_callC (n := 2) hC hX (c_X4_ofTrade ht hw hg) gL_ofTrade_X4_ofTrade rfl dL_ofTrade_5 rfl rfl (by decide +kernel) ⟨Nat.le_of_ble_eq_true rfl, Nat.le_of_ble_eq_true rfl⟩ rfl (Nat.le_of_ble_eq_true rfl) ⟨Nat.le_of_ble_eq_true rfl, Nat.le_of_ble_eq_true rfl⟩ rfl (fun E9 S9 q9 => ?_) (fun r9 S9 q9 => ?_)
  · obtain ⟨rfl, q9⟩ := q9
    rcases q9 with ⟨hc9, rfl⟩ | ⟨hc9, rfl⟩ | ⟨hc9, rfl⟩
    · refine ⟨13, ⟨[], (0, 10, 13, 19), [(0, 10, 17, 25)], rfl, (fun z hz => nomatch hz), by decide, by decide, by decide +kernel, rfl, by decide +kernel⟩, fun q8 => ?_⟩
      refine m_astore hC dL_ofTrade_13 [(4, .ref q8), (0, .ref (g.2.2 0)), (1, .int (z32 t)), (2, .int (z32 w)), (3, .ref (g.2.2 32))] (by decide) rfl ?_
      refine m_iconst (v := 1) hC dL_ofTrade_15 (by decide) ?_
      refine x_iret hC hR (Or.inl rfl) dL_ofTrade_16 ⟨Nat.le_of_ble_eq_true rfl, Nat.le_of_ble_eq_true rfl⟩ ⟨_, rfl, ?_⟩
      exact ⟨fun h => absurd (hc9.symm.trans h) (by decide), fun _ => ⟨by rw [hc9]; rfl, rfl⟩⟩
    · refine ⟨17, ⟨[(0, 10, 13, 19)], (0, 10, 17, 25), [], rfl, (fun z hz => by simp only [List.mem_cons, List.not_mem_nil, or_false] at hz; rcases hz with rfl <;> first | exact ⟨by decide, xIOB, by decide +kernel, by decide⟩), by decide, by decide, by decide +kernel, rfl, by decide +kernel⟩, fun q8 => ?_⟩
      refine m_astore hC dL_ofTrade_17 [(4, .ref q8), (0, .ref (g.2.2 0)), (1, .int (z32 t)), (2, .int (z32 w)), (3, .ref (g.2.2 32))] (by decide) rfl ?_
      refine m_iconst (v := 2) hC dL_ofTrade_19 (by decide) ?_
      refine x_iret hC hR (Or.inl rfl) dL_ofTrade_20 ⟨Nat.le_of_ble_eq_true rfl, Nat.le_of_ble_eq_true rfl⟩ ⟨_, rfl, ?_⟩
      exact ⟨fun h => absurd (hc9.symm.trans h) (by decide), fun _ => ⟨by rw [hc9]; rfl, rfl⟩⟩
    · exact absurd hc9 (by unfold cxOfT; repeat' (first | apply sq_ne | (show (0 : Int) ≠ _; decide) | (unfold xnS; split <;> decide) | (unfold xnW; split <;> decide) | (unfold xnT; split <;> decide) | (unfold xnR; split <;> decide) | (unfold xnU; split <;> decide) | (unfold xnB; split <;> decide) | (unfold xnG) | (unfold xnH; split) | (split <;> decide)))
  · obtain ⟨hc9, rfl, rfl⟩ := q9
    refine m_i2l hC dL_ofTrade_8 (hval hc9) ?_
    refine m_lastore (o := 32) (n := 1) hC rfl dL_ofTrade_9 (by omega) (by omega) (by decide) ?_
    refine m_goto (tgt := 21) hC dL_ofTrade_10 (by decide) ?_
    refine m_iconst (v := 0) hC dL_ofTrade_21 (by decide) ?_
    refine x_iret hC hR (Or.inl rfl) dL_ofTrade_22 ⟨Nat.le_of_ble_eq_true rfl, Nat.le_of_ble_eq_true rfl⟩ ⟨_, rfl, ?_⟩
    exact ⟨fun _ => ⟨rfl, rfl⟩, fun h => absurd hc9 h⟩
set_option maxHeartbeats 4000000 in
set_option maxRecDepth 100000 in
theorem c_L_guaranteed {g : mG} {S : Mem} {x : Int} (hx : -2147483648 ≤ x ∧ x < 2147483648) {y : Int} (hy : -2147483648 ≤ y ∧ y < 2147483648) (hg : Rg S) (hval : cxTwo S x y = 0 → -2147483648 ≤ S 12 (ix x y) ∧ S 12 (ix x y) < 2147483648) (l : Launch) : DoesX l yL_guaranteed wsL_guaranteed ({ frames := 8, cells := 2, slots := 12, locals := 133 } : Room) g [.ref (g.2.2 0), .int (z32 x), .int (z32 y), .ref (g.2.2 32)] S (WP trOne S (cxTwo S x y) (S 12 (ix x y)) (S)) (fun _ _ => False) := by
  refine DoesX.ofH (hh := [(0, 10, 13, 19)]) (cc := cL_guaranteed) (maxL := 5) (ret := (some .int)) (own := RL) (by decide) rfl rfl (Nat.le_of_ble_eq_true rfl) ?_
  intro C hC hX hR
  show MW C g 5 (0, 0) 0 [(0, .ref (g.2.2 0)), (1, .int (z32 x)), (2, .int (z32 y)), (3, .ref (g.2.2 32))] [] S
  refine m_aload_n hC dL_guaranteed_0 3 rfl ?_
  refine m_iconst (v := 0) hC dL_guaranteed_1 (by decide) ?_
  refine m_aload_n hC dL_guaranteed_2 0 rfl ?_
  refine m_iload_n hC dL_guaranteed_3 1 rfl ?_
  refine m_iload_n hC dL_guaranteed_4 2 rfl ?_
  refine x_callC (n := 2) hC hX (c_X4_guaranteed hx hy hg) gL_guaranteed_X4_guaranteed rfl dL_guaranteed_5 rfl rfl (by decide +kernel) ⟨Nat.le_of_ble_eq_true rfl, Nat.le_of_ble_eq_true rfl⟩ rfl (Nat.le_of_ble_eq_true rfl) ⟨Nat.le_of_ble_eq_true rfl, Nat.le_of_ble_eq_true rfl⟩ rfl (fun E9 S9 q9 => ?_) (fun r9 S9 q9 => ?_)
  · obtain ⟨rfl, q9⟩ := q9
    rcases q9 with ⟨hc9, rfl⟩ | ⟨hc9, rfl⟩ | ⟨hc9, rfl⟩
    · refine ⟨13, ⟨[], (0, 10, 13, 19), [], rfl, (fun z hz => nomatch hz), by decide, by decide, by decide +kernel, rfl, by decide +kernel⟩, fun q8 => ?_⟩
      refine m_astore hC dL_guaranteed_13 [(4, .ref q8), (0, .ref (g.2.2 0)), (1, .int (z32 x)), (2, .int (z32 y)), (3, .ref (g.2.2 32))] (by decide) rfl ?_
      refine m_iconst (v := 1) hC dL_guaranteed_15 (by decide) ?_
      refine x_iret hC hR (Or.inl rfl) dL_guaranteed_16 ⟨Nat.le_of_ble_eq_true rfl, Nat.le_of_ble_eq_true rfl⟩ ⟨_, rfl, ?_⟩
      exact ⟨fun h => absurd (hc9.symm.trans h) (by decide), fun _ => ⟨by rw [hc9]; rfl, rfl⟩⟩
    · exact absurd hc9 (by unfold cxTwo; repeat' (first | apply sq_ne | (show (0 : Int) ≠ _; decide) | (unfold xnS; split <;> decide) | (unfold xnW; split <;> decide) | (unfold xnT; split <;> decide) | (unfold xnR; split <;> decide) | (unfold xnU; split <;> decide) | (unfold xnB; split <;> decide) | (unfold xnG) | (unfold xnH; split) | (split <;> decide)))
    · exact absurd hc9 (by unfold cxTwo; repeat' (first | apply sq_ne | (show (0 : Int) ≠ _; decide) | (unfold xnS; split <;> decide) | (unfold xnW; split <;> decide) | (unfold xnT; split <;> decide) | (unfold xnR; split <;> decide) | (unfold xnU; split <;> decide) | (unfold xnB; split <;> decide) | (unfold xnG) | (unfold xnH; split) | (split <;> decide)))
  · obtain ⟨hc9, rfl, rfl⟩ := q9
    refine m_i2l hC dL_guaranteed_8 (hval hc9) ?_
    refine m_lastore (o := 32) (n := 1) hC rfl dL_guaranteed_9 (by omega) (by omega) (by decide) ?_
    refine m_goto (tgt := 17) hC dL_guaranteed_10 (by decide) ?_
    refine m_iconst (v := 0) hC dL_guaranteed_17 (by decide) ?_
    refine x_iret hC hR (Or.inl rfl) dL_guaranteed_18 ⟨Nat.le_of_ble_eq_true rfl, Nat.le_of_ble_eq_true rfl⟩ ⟨_, rfl, ?_⟩
    exact ⟨fun _ => ⟨rfl, rfl⟩, fun h => absurd hc9 h⟩
set_option maxHeartbeats 4000000 in
set_option maxRecDepth 100000 in
theorem c_L_goods {g : mG} {S : Mem} {x : Int} (hx : -2147483648 ≤ x ∧ x < 2147483648) (hg : Rg S) (hval : cxOne S x = 0 → -2147483648 ≤ tg 8 2 (S 2) x 1 ∧ tg 8 2 (S 2) x 1 < 2147483648) (l : Launch) : DoesX l yL_goods wsL_goods ({ frames := 8, cells := 1, slots := 6, locals := 132 } : Room) g [.ref (g.2.2 0), .int (z32 x), .ref (g.2.2 32)] S (WP trOne S (cxOne S x) (tg 8 2 (S 2) x 1) (S)) (fun _ _ => False) := by
  refine DoesX.ofH (hh := [(0, 9, 12, 19)]) (cc := cL_goods) (maxL := 4) (ret := (some .int)) (own := RL) (by decide) rfl rfl (Nat.le_of_ble_eq_true rfl) ?_
  intro C hC hX hR
  show MW C g 4 (0, 0) 0 [(0, .ref (g.2.2 0)), (1, .int (z32 x)), (2, .ref (g.2.2 32))] [] S
  refine m_aload_n hC dL_goods_0 2 rfl ?_
  refine m_iconst (v := 0) hC dL_goods_1 (by decide) ?_
  refine m_aload_n hC dL_goods_2 0 rfl ?_
  refine m_iload_n hC dL_goods_3 1 rfl ?_
  refine x_callC (n := 1) hC hX (c_X4_goods hx hg) gL_goods_X4_goods rfl dL_goods_4 rfl rfl (by decide +kernel) ⟨Nat.le_of_ble_eq_true rfl, Nat.le_of_ble_eq_true rfl⟩ rfl (Nat.le_of_ble_eq_true rfl) ⟨Nat.le_of_ble_eq_true rfl, Nat.le_of_ble_eq_true rfl⟩ rfl (fun E9 S9 q9 => ?_) (fun r9 S9 q9 => ?_)
  · obtain ⟨rfl, q9⟩ := q9
    rcases q9 with ⟨hc9, rfl⟩ | ⟨hc9, rfl⟩ | ⟨hc9, rfl⟩
    · refine ⟨12, ⟨[], (0, 9, 12, 19), [], rfl, (fun z hz => nomatch hz), by decide, by decide, by decide +kernel, rfl, by decide +kernel⟩, fun q8 => ?_⟩
      refine m_astore_n hC dL_goods_12 [(3, .ref q8), (0, .ref (g.2.2 0)), (1, .int (z32 x)), (2, .ref (g.2.2 32))] (by decide) rfl ?_
      refine m_iconst (v := 1) hC dL_goods_13 (by decide) ?_
      refine x_iret hC hR (Or.inl rfl) dL_goods_14 ⟨Nat.le_of_ble_eq_true rfl, Nat.le_of_ble_eq_true rfl⟩ ⟨_, rfl, ?_⟩
      exact ⟨fun h => absurd (hc9.symm.trans h) (by decide), fun _ => ⟨by rw [hc9]; rfl, rfl⟩⟩
    · exact absurd hc9 (by unfold cxOne; repeat' (first | apply sq_ne | (show (0 : Int) ≠ _; decide) | (unfold xnS; split <;> decide) | (unfold xnW; split <;> decide) | (unfold xnT; split <;> decide) | (unfold xnR; split <;> decide) | (unfold xnU; split <;> decide) | (unfold xnB; split <;> decide) | (unfold xnG) | (unfold xnH; split) | (split <;> decide)))
    · exact absurd hc9 (by unfold cxOne; repeat' (first | apply sq_ne | (show (0 : Int) ≠ _; decide) | (unfold xnS; split <;> decide) | (unfold xnW; split <;> decide) | (unfold xnT; split <;> decide) | (unfold xnR; split <;> decide) | (unfold xnU; split <;> decide) | (unfold xnB; split <;> decide) | (unfold xnG) | (unfold xnH; split) | (split <;> decide)))
  · obtain ⟨hc9, rfl, rfl⟩ := q9
    refine m_i2l hC dL_goods_7 (hval hc9) ?_
    refine m_lastore (o := 32) (n := 1) hC rfl dL_goods_8 (by omega) (by omega) (by decide) ?_
    refine m_goto (tgt := 15) hC dL_goods_9 (by decide) ?_
    refine m_iconst (v := 0) hC dL_goods_15 (by decide) ?_
    refine x_iret hC hR (Or.inl rfl) dL_goods_16 ⟨Nat.le_of_ble_eq_true rfl, Nat.le_of_ble_eq_true rfl⟩ ⟨_, rfl, ?_⟩
    exact ⟨fun _ => ⟨rfl, rfl⟩, fun h => absurd hc9 h⟩
set_option maxHeartbeats 4000000 in
set_option maxRecDepth 100000 in
theorem c_L_isIdle {g : mG} {S : Mem} {x : Int} (hx : -2147483648 ≤ x ∧ x < 2147483648) (hg : Rg S) (hok : OkD (S 8)) (hfz : Fz (S 8) (S 10)) (hval : cxLim S x = 0 → -2147483648 ≤ bI (idF S (S 8) x) ∧ bI (idF S (S 8) x) < 2147483648) (l : Launch) : DoesX l yL_isIdle wsL_isIdle ({ frames := 8, cells := 1, slots := 6, locals := 155 } : Room) g [.ref (g.2.2 0), .int (z32 x), .ref (g.2.2 32)] S (WP trOne S (cxLim S x) (bI (idF S (S 8) x)) (S)) (fun _ _ => False) := by
  refine DoesX.ofH (hh := [(0, 16, 19, 19)]) (cc := cL_isIdle) (maxL := 4) (ret := (some .int)) (own := RL) (by decide) rfl rfl (Nat.le_of_ble_eq_true rfl) ?_
  intro C hC hX hR
  show MW C g 4 (0, 0) 0 [(0, .ref (g.2.2 0)), (1, .int (z32 x)), (2, .ref (g.2.2 32))] [] S
  refine m_aload_n hC dL_isIdle_0 2 rfl ?_
  refine m_iconst (v := 0) hC dL_isIdle_1 (by decide) ?_
  refine m_aload_n hC dL_isIdle_2 0 rfl ?_
  refine m_iload_n hC dL_isIdle_3 1 rfl ?_
  refine x_callC (n := 1) hC hX (c_X4_isIdle hx hg hok hfz) gL_isIdle_X4_isIdle rfl dL_isIdle_4 rfl rfl (by decide +kernel) ⟨Nat.le_of_ble_eq_true rfl, Nat.le_of_ble_eq_true rfl⟩ rfl (Nat.le_of_ble_eq_true rfl) ⟨Nat.le_of_ble_eq_true rfl, Nat.le_of_ble_eq_true rfl⟩ rfl (fun E9 S9 q9 => ?_) (fun r9 S9 q9 => ?_)
  · obtain ⟨rfl, q9⟩ := q9
    rcases q9 with ⟨hc9, rfl⟩ | ⟨hc9, rfl⟩ | ⟨hc9, rfl⟩
    · refine ⟨19, ⟨[], (0, 16, 19, 19), [], rfl, (fun z hz => nomatch hz), by decide, by decide, by decide +kernel, rfl, by decide +kernel⟩, fun q8 => ?_⟩
      refine m_astore_n hC dL_isIdle_19 [(3, .ref q8), (0, .ref (g.2.2 0)), (1, .int (z32 x)), (2, .ref (g.2.2 32))] (by decide) rfl ?_
      refine m_iconst (v := 1) hC dL_isIdle_20 (by decide) ?_
      refine x_iret hC hR (Or.inl rfl) dL_isIdle_21 ⟨Nat.le_of_ble_eq_true rfl, Nat.le_of_ble_eq_true rfl⟩ ⟨_, rfl, ?_⟩
      exact ⟨fun h => absurd (hc9.symm.trans h) (by decide), fun _ => ⟨by rw [hc9]; rfl, rfl⟩⟩
    · exact absurd hc9 (by unfold cxLim; repeat' (first | apply sq_ne | (show (0 : Int) ≠ _; decide) | (unfold xnS; split <;> decide) | (unfold xnW; split <;> decide) | (unfold xnT; split <;> decide) | (unfold xnR; split <;> decide) | (unfold xnU; split <;> decide) | (unfold xnB; split <;> decide) | (unfold xnG) | (unfold xnH; split) | (split <;> decide)))
    · exact absurd hc9 (by unfold cxLim; repeat' (first | apply sq_ne | (show (0 : Int) ≠ _; decide) | (unfold xnS; split <;> decide) | (unfold xnW; split <;> decide) | (unfold xnT; split <;> decide) | (unfold xnR; split <;> decide) | (unfold xnU; split <;> decide) | (unfold xnB; split <;> decide) | (unfold xnG) | (unfold xnH; split) | (split <;> decide)))
  · obtain ⟨hc9, rfl, rfl⟩ := q9
    refine m_if_eq (tgt := 14) hC dL_isIdle_7 (by decide) (bI_32 _) (fun c_7 => ?_) (fun c_7 => ?_)
    · have b_7 := bI_0 c_7
      refine m_lconst (v := 0) hC dL_isIdle_14 (by decide) ?_
      refine m_lastore (o := 32) (n := 1) hC rfl dL_isIdle_15 (by omega) (by omega) (by decide) ?_
      refine m_goto (tgt := 22) hC dL_isIdle_16 (by decide) ?_
      refine m_iconst (v := 0) hC dL_isIdle_22 (by decide) ?_
      refine x_iret hC hR (Or.inl rfl) dL_isIdle_23 ⟨Nat.le_of_ble_eq_true rfl, Nat.le_of_ble_eq_true rfl⟩ ⟨_, rfl, ?_⟩
      exact ⟨fun _ => ⟨rfl, by rw [b_7]; rfl⟩, fun h => absurd hc9 h⟩
    · have b_7 := bI_1 c_7
      refine m_lconst (v := 1) hC dL_isIdle_10 (by decide) ?_
      refine m_goto (tgt := 15) hC dL_isIdle_11 (by decide) ?_
      refine m_lastore (o := 32) (n := 1) hC rfl dL_isIdle_15 (by omega) (by omega) (by decide) ?_
      refine m_goto (tgt := 22) hC dL_isIdle_16 (by decide) ?_
      refine m_iconst (v := 0) hC dL_isIdle_22 (by decide) ?_
      refine x_iret hC hR (Or.inl rfl) dL_isIdle_23 ⟨Nat.le_of_ble_eq_true rfl, Nat.le_of_ble_eq_true rfl⟩ ⟨_, rfl, ?_⟩
      exact ⟨fun _ => ⟨rfl, by rw [b_7]; rfl⟩, fun h => absurd hc9 h⟩
set_option maxHeartbeats 4000000 in
set_option maxRecDepth 100000 in
theorem c_L_ring {g : mG} {S : Mem} {r : Int} (hr : -2147483648 ≤ r ∧ r < 2147483648) {w : Int} (hw : -2147483648 ≤ w ∧ w < 2147483648) (hg : Rg S) (h15 : 0 ≤ S 15 1 ∧ S 15 1 ≤ 56) (hval : cxRing S r w = 0 → -2147483648 ≤ tg 57 7 (S 17) r w ∧ tg 57 7 (S 17) r w < 2147483648) (l : Launch) : DoesX l yL_ring wsL_ring ({ frames := 8, cells := 1, slots := 6, locals := 134 } : Room) g [.ref (g.2.2 0), .int (z32 r), .int (z32 w), .ref (g.2.2 32)] S (WP tr12 S (cxRing S r w) (tg 57 7 (S 17) r w) (S)) (fun _ _ => False) := by
  refine DoesX.ofH (hh := [(0, 10, 13, 19), (0, 10, 17, 25)]) (cc := cL_ring) (maxL := 5) (ret := (some .int)) (own := RL) (by decide) rfl rfl (Nat.le_of_ble_eq_true rfl) ?_
  intro C hC hX hR
  show MW C g 5 (0, 0) 0 [(0, .ref (g.2.2 0)), (1, .int (z32 r)), (2, .int (z32 w)), (3, .ref (g.2.2 32))] [] S
  refine m_aload_n hC dL_ring_0 3 rfl ?_
  refine m_iconst (v := 0) hC dL_ring_1 (by decide) ?_
  refine m_aload_n hC dL_ring_2 0 rfl ?_
  refine m_iload_n hC dL_ring_3 1 rfl ?_
  refine m_iload_n hC dL_ring_4 2 rfl ?_
  refine x_callC (n := 2) hC hX (c_X4_ring hr hw hg h15) gL_ring_X4_ring rfl dL_ring_5 rfl rfl (by decide +kernel) ⟨Nat.le_of_ble_eq_true rfl, Nat.le_of_ble_eq_true rfl⟩ rfl (Nat.le_of_ble_eq_true rfl) ⟨Nat.le_of_ble_eq_true rfl, Nat.le_of_ble_eq_true rfl⟩ rfl (fun E9 S9 q9 => ?_) (fun r9 S9 q9 => ?_)
  · obtain ⟨rfl, q9⟩ := q9
    rcases q9 with ⟨hc9, rfl⟩ | ⟨hc9, rfl⟩ | ⟨hc9, rfl⟩
    · refine ⟨13, ⟨[], (0, 10, 13, 19), [(0, 10, 17, 25)], rfl, (fun z hz => nomatch hz), by decide, by decide, by decide +kernel, rfl, by decide +kernel⟩, fun q8 => ?_⟩
      refine m_astore hC dL_ring_13 [(4, .ref q8), (0, .ref (g.2.2 0)), (1, .int (z32 r)), (2, .int (z32 w)), (3, .ref (g.2.2 32))] (by decide) rfl ?_
      refine m_iconst (v := 1) hC dL_ring_15 (by decide) ?_
      refine x_iret hC hR (Or.inl rfl) dL_ring_16 ⟨Nat.le_of_ble_eq_true rfl, Nat.le_of_ble_eq_true rfl⟩ ⟨_, rfl, ?_⟩
      exact ⟨fun h => absurd (hc9.symm.trans h) (by decide), fun _ => ⟨by rw [hc9]; rfl, rfl⟩⟩
    · refine ⟨17, ⟨[(0, 10, 13, 19)], (0, 10, 17, 25), [], rfl, (fun z hz => by simp only [List.mem_cons, List.not_mem_nil, or_false] at hz; rcases hz with rfl <;> first | exact ⟨by decide, xIOB, by decide +kernel, by decide⟩), by decide, by decide, by decide +kernel, rfl, by decide +kernel⟩, fun q8 => ?_⟩
      refine m_astore hC dL_ring_17 [(4, .ref q8), (0, .ref (g.2.2 0)), (1, .int (z32 r)), (2, .int (z32 w)), (3, .ref (g.2.2 32))] (by decide) rfl ?_
      refine m_iconst (v := 2) hC dL_ring_19 (by decide) ?_
      refine x_iret hC hR (Or.inl rfl) dL_ring_20 ⟨Nat.le_of_ble_eq_true rfl, Nat.le_of_ble_eq_true rfl⟩ ⟨_, rfl, ?_⟩
      exact ⟨fun h => absurd (hc9.symm.trans h) (by decide), fun _ => ⟨by rw [hc9]; rfl, rfl⟩⟩
    · exact absurd hc9 (by unfold cxRing; repeat' (first | apply sq_ne | (show (0 : Int) ≠ _; decide) | (unfold xnS; split <;> decide) | (unfold xnW; split <;> decide) | (unfold xnT; split <;> decide) | (unfold xnR; split <;> decide) | (unfold xnU; split <;> decide) | (unfold xnB; split <;> decide) | (unfold xnG) | (unfold xnH; split) | (split <;> decide)))
  · obtain ⟨hc9, rfl, rfl⟩ := q9
    refine m_i2l hC dL_ring_8 (hval hc9) ?_
    refine m_lastore (o := 32) (n := 1) hC rfl dL_ring_9 (by omega) (by omega) (by decide) ?_
    refine m_goto (tgt := 21) hC dL_ring_10 (by decide) ?_
    refine m_iconst (v := 0) hC dL_ring_21 (by decide) ?_
    refine x_iret hC hR (Or.inl rfl) dL_ring_22 ⟨Nat.le_of_ble_eq_true rfl, Nat.le_of_ble_eq_true rfl⟩ ⟨_, rfl, ?_⟩
    exact ⟨fun _ => ⟨rfl, rfl⟩, fun h => absurd hc9 h⟩
