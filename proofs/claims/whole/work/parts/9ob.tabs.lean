/-! ===== what the tables and the start give ===== -/
theorem xBad_in : ∀ w ∈ xBad, w ∈ lw_tbl := by decide +kernel
theorem xTx_in : ∀ q ∈ xTx, Cond.stringRef RX4 q.1 q.2 ∈ lw_tbl := by decide +kernel
theorem xEx_in : ∀ q ∈ xTx, Cond.exactly (.string RX4 q.1) "java/lang/String" ∈ flatC (Jvm.Cond.and given_1 narrow_1) := by decide +kernel
theorem xNp_in : ∀ q ∈ xNp, Cond.not (.castable q.1 q.2) ∈ flatC (Jvm.Cond.and given_1 narrow_1) := by decide +kernel
theorem mkN_in : ∀ q ∈ mkN, Cond.methodLinkNest RX4 q.1 q.2 RX4 ∈ lw_tbl := by decide +kernel
theorem law_xK {s : State} {b : Nat} (hts : ∀ w ∈ lw_tbl, w.before #[Value.ref b] s = true) (hgv : (Jvm.Cond.and given_1 narrow_1).before #[Value.ref b] s = true) : xK s := by
  have hf := flat_of_before _ hgv
  refine ⟨fun w hw => ?_, fun q hq => ?_, fun q hq => va_Nc.of (hf _ (xNp_in q hq))⟩
  · have h1 := Cond.tabsOnly_warm (args' := #[]) (T := s) (State.WarmedH.refl s) w (xBad_tabs w hw) (hts _ (xBad_in w hw))
    rwa [show s.setVm s.vm = s from by cases s; rfl] at h1
  · obtain ⟨a, c, cell, k, h1, -⟩ := Cond.exactly_spec (hf _ (xEx_in q hq))
    exact ⟨a, vk_R.of (hts _ (xTx_in q hq)) h1⟩
theorem law_xZ {s : State} {b : Nat} (hts : ∀ w ∈ lw_tbl, w.before #[Value.ref b] s = true) (hgv : (Jvm.Cond.and given_1 narrow_1).before #[Value.ref b] s = true) : xZ (fun q => s.heap.size ≤ q) s s.heap := by
  have hf := flat_of_before _ hgv
  have hA : ∀ a : Nat, a < s.heap.size → ¬ s.heap.size ≤ a := fun a h => Nat.not_le.mpr h
  exact ⟨vx_Zqof (hts _ (by decide +kernel)) (hts _ (by decide +kernel)) (hf _ (by decide +kernel)) hA, vx_Zqof (hts _ (by decide +kernel)) (hts _ (by decide +kernel)) (hf _ (by decide +kernel)) hA⟩
theorem law_nK {s : State} {b : Nat} (hts : ∀ w ∈ lw_tbl, w.before #[Value.ref b] s = true) : nK s := fun q hq => va_Nw.of rfl (hts _ (mkN_in q hq))
theorem arr_K {s : State} {args : Array Value} {ty : FieldType} (h3 : ty = .int ∨ ty = .boolean ∨ ty = .long) (h : (Cond.arrayClass ty).before args s = true) : ∃ cA : ClassId, ArrOfT s cA ty ∧ va_RA s cA ty := by
  obtain ⟨cA, kA, comp, f1, f2, f3⟩ := Cond.arrayClass_spec h
  refine ⟨cA, fun n z => ⟨fun k h => (by cases h), kA, f2, comp, f3⟩, ?_⟩
  rcases h3 with rfl | rfl | rfl
  · exact f1
  · exact f1
  · exact f1
theorem law_K {s : State} {b : Nat} (hts : ∀ w ∈ lw_tbl, w.before #[Value.ref b] s = true) : ∃ (D : va_G) (T3 : Nat → ClassId), va_K D vwCl (tys3 T3) s := by
  obtain ⟨c0, iS0, hK0⟩ := u_known (C := RX0) (T := TX0) (N := 2) (n := 2) hts inX0 (hts _ (by decide +kernel))
  obtain ⟨c1, iS1, hK1⟩ := u_known (C := RX1) (T := TX1) (N := 2) (n := 2) hts inX1 (hts _ (by decide +kernel))
  obtain ⟨c2, iS2, hK2⟩ := u_known (C := RX2) (T := TX2) (N := 3) (n := 3) hts inX2 (hts _ (by decide +kernel))
  obtain ⟨c3, iS3, hK3⟩ := u_known (C := RX3) (T := TX3) (N := 2) (n := 2) hts inX3 (hts _ (by decide +kernel))
  obtain ⟨c4, iS4, hK4⟩ := u_known (C := RX4) (T := TX4) (N := 9) (n := 9) hts inX4 (hts _ (by decide +kernel))
  obtain ⟨c5, iS5, hK5⟩ := u_known (C := RX5) (T := TX5) (N := 19) (n := 19) hts inX5 (hts _ (by decide +kernel))
  obtain ⟨dC, dI, hKc⟩ : ∃ (dC : Nat → ClassId) (dI : Nat → Nat → Nat), ∀ (k : Nat) (q : vw_C), vwCl[k]? = some q → u_Kn s q.1 q.2.1 q.2.2 (dC k) (dI k) := by
    refine ⟨fun k => if k = 0 then c0 else if k = 1 then c1 else if k = 2 then c2 else if k = 3 then c3 else if k = 4 then c4 else c5, fun k => if k = 0 then iS0 else if k = 1 then iS1 else if k = 2 then iS2 else if k = 3 then iS3 else if k = 4 then iS4 else iS5, ?_⟩
    intro k q hq
    match k, hq with
    | 0, hq => cases hq; exact hK0
    | 1, hq => cases hq; exact hK1
    | 2, hq => cases hq; exact hK2
    | 3, hq => cases hq; exact hK3
    | 4, hq => cases hq; exact hK4
    | 5, hq => cases hq; exact hK5
    | k + 6, hq => simp [vwCl] at hq
  obtain ⟨a0, g0⟩ := arr_K (Or.inl rfl) (hts (.arrayClass .int) (by decide +kernel))
  obtain ⟨a1, g1⟩ := arr_K (Or.inr (Or.inl rfl)) (hts (.arrayClass .boolean) (by decide +kernel))
  obtain ⟨a2, g2⟩ := arr_K (Or.inr (Or.inr rfl)) (hts (.arrayClass .long) (by decide +kernel))
  refine ⟨(dC, dI), fun t => if t = 0 then a0 else if t = 1 then a1 else a2, hKc, ?_⟩
  intro k q hq
  match k, hq with
  | 0, hq => cases hq; exact g0
  | 1, hq => cases hq; exact g1
  | 2, hq => cases hq; exact g2
  | k + 3, hq => simp [tys3] at hq
