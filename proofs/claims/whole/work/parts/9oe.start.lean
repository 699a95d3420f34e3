/-! ===== the law's start ===== -/
theorem gw_mw {C : mX} {own : String} {cc : ByteArray} {nL : Nat} {Ts : List Cond} {rm : Room} {D : va_G} {T3 : Nat → ClassId} {ad : Nat → Nat} {S : Mem} {ws : va_W} {k : Nat × Nat} {pc : Nat} {lv : List (Nat × Value)} {st : List Value} (hC : wCtx C own cc nL Ts rm D T3) (hws : ws = mW (D, T3, ad) S) (hm : mCtx C own cc nL Ts rm (D, T3, ad) → MW C (D, T3, ad) nL k pc lv st S) : GW C D nL ws k pc lv st := by
  subst hws
  obtain ⟨p, l, e, R, s, m, args, below, meth, c, Q, A⟩ := C
  obtain ⟨hx, hb, hml, hown, hts, hK, hA, hlk, hR, hN⟩ := hC
  intro H locs ls hl hP hD hS
  exact hm ⟨hx, hb, hml, hown, hts, hK, mD_of _ hD, hA, hlk, hR⟩ H locs ls hl hP hS
theorem dv_long : defaultValue FieldType.long = Value.long (z64 0) := by rw [show z64 0 = (0 : Int64) from by decide]; rfl
set_option maxHeartbeats 4000000 in
set_option maxRecDepth 100000 in
theorem law_start {C : mX} {D : va_G} {T3 : Nat → ClassId} {b : Nat} (hC : wCtx C RL cL_law 7 wsL_law room_1 D T3) (kk : ∀ ad : Nat → Nat, mCtx C RL cL_law 7 wsL_law room_1 (D, T3, ad) → MW C (D, T3, ad) 7 (33, 2959) 20 [(3, .ref (ad 32)), (2, .ref (ad 18)), (1, .ref (ad 0)), (0, .ref b)] [] S00) : GW C D 7 [] (0, 0) 0 [(0, .ref b)] [] := by
  refine w_new (ci := 4) (fs := [.null, .null, .null, .null, .null, .null, .int (z32 0), .int (z32 0), .int (z32 0)]) (CN := RX4) (T := TX4) (N := 9) hC inlX4 tyX4 tyX4_ok (by decide +kernel) (by decide +kernel) (by decide +kernel) rfl (fun j hj => by rcases (show j = 0 ∨ j = 1 ∨ j = 2 ∨ j = 3 ∨ j = 4 ∨ j = 5 ∨ j = 6 ∨ j = 7 ∨ j = 8 by omega) with rfl | rfl | rfl | rfl | rfl | rfl | rfl | rfl | rfl <;> first | rfl | exact dv_int) ⟨(Nat.le_of_ble_eq_true rfl), (Nat.le_of_ble_eq_true rfl)⟩ dL_law_0 (fun a0 => ?_)
  show GW C D 7 [(a0, .inr (4, [.null, .null, .null, .null, .null, .null, .int (z32 0), .int (z32 0), .int (z32 0)]))] (1, 9) 3 [(0, .ref b)] [.ref a0]
  refine w_dup hC dL_law_3 rfl ?_
  refine w_init (n := 0) (As := []) (rest := [.ref a0]) (b := a0) hC [] [0] [] (k_X4_init) gL_law_X4_init rfl (by decide +kernel) (by decide +kernel) (by decide +kernel) rfl (by decide +kernel) ⟨(Nat.le_of_ble_eq_true rfl), (Nat.le_of_ble_eq_true rfl)⟩ dL_law_4 rfl (Nat.le_of_ble_eq_true rfl) ⟨(Nat.le_of_ble_eq_true rfl), (Nat.le_of_ble_eq_true rfl)⟩ rfl rfl rfl (by decide) rfl (by decide) (by decide) (fun w1 hw1 => ?_)
  obtain ⟨a1, a2, a3, a4, a5, a6, a7, a8, a9, a10, a11, a12, a13, a14, a15, a16, a17, rfl⟩ := hw1
  show GW C D 7 [(a0, .inr (4, [.ref a1, .ref a3, .ref a6, .ref a11, .ref a13, .ref a15, .int (z32 0), .int (z32 0), .int (z32 10)])), (a1, tbE 8 2 a2), (a2, .inl (T3 0, zI 16)), (a3, .inr (3, [.ref a4, .int (z32 0)])), (a4, tbE 100 6 a5), (a5, .inl (T3 0, zI 600)), (a6, .inr (0, [.ref a7, .ref a9])), (a7, tbE 9 9 a8), (a8, .inl (T3 0, zI 81)), (a9, tbE 9 9 a10), (a10, .inl (T3 0, zI 81)), (a11, tbE 9 9 a12), (a12, .inl (T3 0, zI 81)), (a13, tbE 9 9 a14), (a14, .inl (T3 0, zI 81)), (a15, .inr (1, [.ref a16, .int (z32 0)])), (a16, tbE 57 7 a17), (a17, .inl (T3 0, zI 399))] (18, 1375) 7 [(0, .ref b)] [.ref a0]
  refine w_astore_n hC dL_law_7 [(1, .ref a0), (0, .ref b)] (by decide) rfl ?_
  refine w_new (ci := 5) (fs := [.int (z32 0), .int (z32 0), .null, .null, .null, .null, .null, .int (z32 0), .null, .null, .null, .null, .null, .null, .int (z32 0), .int (z32 0), .int (z32 0), .null, .null]) (CN := RX5) (T := TX5) (N := 19) hC inlX5 tyX5 tyX5_ok (by decide +kernel) (by decide +kernel) (by decide +kernel) rfl (fun j hj => by rcases (show j = 0 ∨ j = 1 ∨ j = 2 ∨ j = 3 ∨ j = 4 ∨ j = 5 ∨ j = 6 ∨ j = 7 ∨ j = 8 ∨ j = 9 ∨ j = 10 ∨ j = 11 ∨ j = 12 ∨ j = 13 ∨ j = 14 ∨ j = 15 ∨ j = 16 ∨ j = 17 ∨ j = 18 by omega) with rfl | rfl | rfl | rfl | rfl | rfl | rfl | rfl | rfl | rfl | rfl | rfl | rfl | rfl | rfl | rfl | rfl | rfl | rfl <;> first | rfl | exact dv_int) ⟨(Nat.le_of_ble_eq_true rfl), (Nat.le_of_ble_eq_true rfl)⟩ dL_law_8 (fun a18 => ?_)
  show GW C D 7 [(a0, .inr (4, [.ref a1, .ref a3, .ref a6, .ref a11, .ref a13, .ref a15, .int (z32 0), .int (z32 0), .int (z32 10)])), (a1, tbE 8 2 a2), (a2, .inl (T3 0, zI 16)), (a3, .inr (3, [.ref a4, .int (z32 0)])), (a4, tbE 100 6 a5), (a5, .inl (T3 0, zI 600)), (a6, .inr (0, [.ref a7, .ref a9])), (a7, tbE 9 9 a8), (a8, .inl (T3 0, zI 81)), (a9, tbE 9 9 a10), (a10, .inl (T3 0, zI 81)), (a11, tbE 9 9 a12), (a12, .inl (T3 0, zI 81)), (a13, tbE 9 9 a14), (a14, .inl (T3 0, zI 81)), (a15, .inr (1, [.ref a16, .int (z32 0)])), (a16, tbE 57 7 a17), (a17, .inl (T3 0, zI 399)), (a18, .inr (5, [.int (z32 0), .int (z32 0), .null, .null, .null, .null, .null, .int (z32 0), .null, .null, .null, .null, .null, .null, .int (z32 0), .int (z32 0), .int (z32 0), .null, .null]))] (19, 1394) 11 [(1, .ref a0), (0, .ref b)] [.ref a18]
  refine w_dup hC dL_law_11 rfl ?_
  refine w_init (n := 0) (As := []) (rest := [.ref a18]) (b := a18) hC [(a0, .inr (4, [.ref a1, .ref a3, .ref a6, .ref a11, .ref a13, .ref a15, .int (z32 0), .int (z32 0), .int (z32 10)])), (a1, tbE 8 2 a2), (a2, .inl (T3 0, zI 16)), (a3, .inr (3, [.ref a4, .int (z32 0)])), (a4, tbE 100 6 a5), (a5, .inl (T3 0, zI 600)), (a6, .inr (0, [.ref a7, .ref a9])), (a7, tbE 9 9 a8), (a8, .inl (T3 0, zI 81)), (a9, tbE 9 9 a10), (a10, .inl (T3 0, zI 81)), (a11, tbE 9 9 a12), (a12, .inl (T3 0, zI 81)), (a13, tbE 9 9 a14), (a14, .inl (T3 0, zI 81)), (a15, .inr (1, [.ref a16, .int (z32 0)])), (a16, tbE 57 7 a17), (a17, .inl (T3 0, zI 399))] [18] [0, 1, 2, 3, 4, 5, 6, 7, 8, 9, 10, 11, 12, 13, 14, 15, 16, 17] (k_X5_init) gL_law_X5_init rfl (by decide +kernel) (by decide +kernel) (by decide +kernel) rfl (by decide +kernel) ⟨(Nat.le_of_ble_eq_true rfl), (Nat.le_of_ble_eq_true rfl)⟩ dL_law_12 rfl (Nat.le_of_ble_eq_true rfl) ⟨(Nat.le_of_ble_eq_true rfl), (Nat.le_of_ble_eq_true rfl)⟩ rfl rfl rfl (by decide) rfl (by decide) (by decide) (fun w1 hw1 => ?_)
  obtain ⟨a19, a20, a21, a22, a23, a24, a25, a26, a27, a28, a29, a30, a31, rfl⟩ := hw1
  show GW C D 7 [(a0, .inr (4, [.ref a1, .ref a3, .ref a6, .ref a11, .ref a13, .ref a15, .int (z32 0), .int (z32 0), .int (z32 10)])), (a1, tbE 8 2 a2), (a2, .inl (T3 0, zI 16)), (a3, .inr (3, [.ref a4, .int (z32 0)])), (a4, tbE 100 6 a5), (a5, .inl (T3 0, zI 600)), (a6, .inr (0, [.ref a7, .ref a9])), (a7, tbE 9 9 a8), (a8, .inl (T3 0, zI 81)), (a9, tbE 9 9 a10), (a10, .inl (T3 0, zI 81)), (a11, tbE 9 9 a12), (a12, .inl (T3 0, zI 81)), (a13, tbE 9 9 a14), (a14, .inl (T3 0, zI 81)), (a15, .inr (1, [.ref a16, .int (z32 0)])), (a16, tbE 57 7 a17), (a17, .inl (T3 0, zI 399)), (a18, .inr (5, [.int (z32 0), .int (z32 0), .ref a19, .ref a20, .ref a21, .ref a22, .ref a23, .int (z32 0), .ref a24, .ref a25, .ref a26, .ref a27, .ref a28, .ref a29, .int (z32 0), .int (z32 10), .int (z32 0), .ref a30, .ref a31])), (a19, .inl (T3 1, zI 8)), (a20, .inl (T3 0, zI 81)), (a21, .inl (T3 0, zI 81)), (a22, .inl (T3 0, zI 81)), (a23, .inl (T3 0, zI 8)), (a24, .inl (T3 0, zI 100)), (a25, .inl (T3 0, zI 100)), (a26, .inl (T3 0, zI 100)), (a27, .inl (T3 0, zI 100)), (a28, .inl (T3 0, zI 100)), (a29, .inl (T3 0, zI 100)), (a30, .inl (T3 0, zI 700)), (a31, .inl (T3 0, zI 5))] (32, 2958) 15 [(1, .ref a0), (0, .ref b)] [.ref a18]
  refine w_astore_n hC dL_law_15 [(2, .ref a18), (1, .ref a0), (0, .ref b)] (by decide) rfl ?_
  refine w_iconst (v := 1) hC dL_law_16 (by decide) ?_
  refine w_newa (t := 2) (ty := .long) (N' := 1) (a0 := (1, .inr (.inl (fun _ => z64 0)))) hC (by decide +kernel) rfl rfl (Or.inr (Or.inr rfl)) (fun cA => by rw [dv_long]; rfl) (z32_nn (by omega) (by omega)) (by rw [z32_cl (by omega) (by omega)]; rfl) (by decide) ⟨(Nat.le_of_ble_eq_true rfl), (Nat.le_of_ble_eq_true rfl)⟩ dL_law_17 (fun a32 => ?_)
  show GW C D 7 [(a0, .inr (4, [.ref a1, .ref a3, .ref a6, .ref a11, .ref a13, .ref a15, .int (z32 0), .int (z32 0), .int (z32 10)])), (a1, tbE 8 2 a2), (a2, .inl (T3 0, zI 16)), (a3, .inr (3, [.ref a4, .int (z32 0)])), (a4, tbE 100 6 a5), (a5, .inl (T3 0, zI 600)), (a6, .inr (0, [.ref a7, .ref a9])), (a7, tbE 9 9 a8), (a8, .inl (T3 0, zI 81)), (a9, tbE 9 9 a10), (a10, .inl (T3 0, zI 81)), (a11, tbE 9 9 a12), (a12, .inl (T3 0, zI 81)), (a13, tbE 9 9 a14), (a14, .inl (T3 0, zI 81)), (a15, .inr (1, [.ref a16, .int (z32 0)])), (a16, tbE 57 7 a17), (a17, .inl (T3 0, zI 399)), (a18, .inr (5, [.int (z32 0), .int (z32 0), .ref a19, .ref a20, .ref a21, .ref a22, .ref a23, .int (z32 0), .ref a24, .ref a25, .ref a26, .ref a27, .ref a28, .ref a29, .int (z32 0), .int (z32 10), .int (z32 0), .ref a30, .ref a31])), (a19, .inl (T3 1, zI 8)), (a20, .inl (T3 0, zI 81)), (a21, .inl (T3 0, zI 81)), (a22, .inl (T3 0, zI 81)), (a23, .inl (T3 0, zI 8)), (a24, .inl (T3 0, zI 100)), (a25, .inl (T3 0, zI 100)), (a26, .inl (T3 0, zI 100)), (a27, .inl (T3 0, zI 100)), (a28, .inl (T3 0, zI 100)), (a29, .inl (T3 0, zI 100)), (a30, .inl (T3 0, zI 700)), (a31, .inl (T3 0, zI 5)), (a32, .inl (T3 2, (1, .inr (.inl (fun _ => z64 0)))))] (33, 2959) 19 [(2, .ref a18), (1, .ref a0), (0, .ref b)] [.ref a32]
  refine w_astore_n hC dL_law_19 [(3, .ref a32), (2, .ref a18), (1, .ref a0), (0, .ref b)] (by decide) rfl ?_
  exact gw_mw (ad := (fun o => [a0, a1, a2, a3, a4, a5, a6, a7, a8, a9, a10, a11, a12, a13, a14, a15, a16, a17, a18, a19, a20, a21, a22, a23, a24, a25, a26, a27, a28, a29, a30, a31, a32].getD o 0)) (S := S00) hC rfl (kk (fun o => [a0, a1, a2, a3, a4, a5, a6, a7, a8, a9, a10, a11, a12, a13, a14, a15, a16, a17, a18, a19, a20, a21, a22, a23, a24, a25, a26, a27, a28, a29, a30, a31, a32].getD o 0))
set_option maxHeartbeats 4000000 in
set_option maxRecDepth 100000 in
theorem whole_start {p : Program} {e : Env} {s : State} {m : MethodId} {below : List Frame} {meth : Method} {c : Code} (l : Launch) (hflags : l.flags = flags0) {b L : Nat} {xs : Nat → Int32} (hL : L ≤ 2048) (C0 : lw_At p s m meth c b L xs) : W p l e room_1 s m #[Value.ref b] below meth c s.heap [] 0 0 (lw_Z below #[Value.ref b] s) (entryFrame m ([Value.ref b] : List Value).toArray 7) := by
  obtain ⟨hx, hb, hr, hml, hown, hts, hX, hbl, hlocks, hgv⟩ := id C0
  have hl9 : l.stackTraces = false := by
    unfold Launch.stackTraces
    rw [hflags]
    decide
  obtain ⟨D, T3, hK⟩ := law_K hts
  have hxk := law_xK hts hgv
  have hxz := law_xZ hts hgv
  have hN := law_nK hts
  have htsL : ∀ w ∈ wsL_law, w.before #[Value.ref b] s = true := fun w hw => hts w (wsL_law_in w hw)
  obtain ⟨C, hCe⟩ : ∃ C : mX, C = (p, l, e, room_1, s, m, #[Value.ref b], below, meth, c, lw_Z below #[Value.ref b] s, fun q => s.heap.size ≤ q) := ⟨_, rfl⟩
  have hC : wCtx C RL cL_law 7 wsL_law room_1 D T3 := by
    rw [hCe]
    exact ⟨hx, hb, hml, hown, htsL, hK, fun _ h => h, hlocks, rfl, hN⟩
  have hXl : lCtx C := by
    rw [hCe]
    exact ⟨hl9, hxk, hxz⟩
  have hs : sCtx C b L xs := by
    rw [hCe]
    exact ⟨hX, hbl, Nat.not_le.mpr hbl⟩
  have hG : GW C D 7 [] (0, 0) 0 [(0, .ref b)] [] := by
    refine law_start hC (fun ad hm => ?_)
    refine m_iconst (v := 0) hm dL_law_20 (by decide) ?_
    refine m_istore hm dL_law_21 (fun z9 => [(4, .int (z32 z9)), (3, .ref (ad 32)), (2, .ref (ad 18)), (1, .ref (ad 0)), (0, .ref b)]) (by decide) (fun _ => rfl) (fun y hy => ?_)
    refine m_locals [4, 3, 2, 1, 0] rfl ?_
    refine law_loop hm hXl hs hL ?_ (L + 1) 0 y S00 (33, 2959) (by omega) (by omega) Iv_00 (by decide) (by decide) (by decide) (by decide)
    intro k lv S hk1 hk2
    rw [hCe]
    intro H locs ls hl hP hS
    refine va_forget hS.2.2 (W.widen hk1 hk2 ?_)
    exact lw_ret hx hb hr hlocks dL_law_1371
  have hl := lv_entry ([.ref b]) (n := 7) (Nat.le_of_ble_eq_true rfl)
  rw [lg_entry_eq]
  rw [hCe] at hG
  exact hG s.heap [] _ hl (fun k q h => by simp at h) ⟨fun i j p q h => by simp at h, fun k q h => by simp at h⟩ va_S.rf
