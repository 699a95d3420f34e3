/-! ===== the law's steps: calls that change something ===== -/
theorem tg6_up {f : Fn} {n k v t w : Int} (hn : 0 ≤ n ∧ n < 100) (hk : 0 ≤ k ∧ k < 6) : tg 100 6 (up f (n * 6 + k) v) t w = if t = n ∧ w = k then v else tg 100 6 f t w := by
  unfold tg up
  by_cases c : 0 ≤ t ∧ t < 100 ∧ 0 ≤ w ∧ w < 6
  · rw [if_pos c, if_pos c]
    by_cases q : t = n ∧ w = k
    · rw [if_pos q, q.1, q.2, if_pos rfl]
    · rw [if_neg q, if_neg (by omega)]
  · rw [if_neg c, if_neg c, if_neg (by omega)]
theorem tg2_up {f : Fn} {n k v t w : Int} (hn : 0 ≤ n ∧ n < 8) (hk : 0 ≤ k ∧ k < 2) : tg 8 2 (up f (n * 2 + k) v) t w = if t = n ∧ w = k then v else tg 8 2 f t w := by
  unfold tg up
  by_cases c : 0 ≤ t ∧ t < 8 ∧ 0 ≤ w ∧ w < 2
  · rw [if_pos c, if_pos c]
    by_cases q : t = n ∧ w = k
    · rw [if_pos q, q.1, q.2, if_pos rfl]
    · rw [if_neg q, if_neg (by omega)]
  · rw [if_neg c, if_neg c, if_neg (by omega)]
theorem ts6 {S : Mem} {n k v : Int} (hn : 0 ≤ n ∧ n < 100) (hk : 0 ≤ k ∧ k < 6) : ts S 5 100 6 n k v = mput S 5 (up (S 5) (n * 6 + k) v) := by
  unfold ts
  rw [if_pos (by omega), mset_mput]
theorem ts2 {S : Mem} {n k v : Int} (hn : 0 ≤ n ∧ n < 8) (hk : 0 ≤ k ∧ k < 2) : ts S 2 8 2 n k v = mput S 2 (up (S 2) (n * 2 + k) v) := by
  unfold ts
  rw [if_pos (by omega), mset_mput]
theorem trd_ts {S : Mem} {n k v t w : Int} (hn : 0 ≤ n ∧ n < 100) (hk : 0 ≤ k ∧ k < 6) : trd (ts S 5 100 6 n k v) t w = if t = n ∧ w = k then v else trd S t w := by
  unfold trd
  rw [ts6 hn hk, mput_same, tg6_up hn hk]
theorem trd_o {S T : Mem} (h : T 5 = S 5) (t w : Int) : trd T t w = trd S t w := by
  unfold trd
  rw [h]
/-! what the reference's states hold -/
theorem stJoin_o {S : Mem} {o : Nat} (a : o ≠ 18) (b : o ≠ 19) : stJoin S o = S o := by
  unfold stJoin thr
  rw [mset_o a, mset_o b, mset_o a]
theorem stJoin_18 (S : Mem) : stJoin S 18 = up (up (S 18) 0 0) 1 (S 18 1 + 1) := by
  unfold stJoin thr
  simp only [mset_mput]
  rfl
theorem stJoin_19 (S : Mem) : stJoin S 19 = up (S 19) (S 18 1) 1 := by
  unfold stJoin thr
  simp only [mset_mput]
  rfl
theorem stFee_18 (S : Mem) (x : Int) : mset (thr S 0) 18 15 x 18 = up (up (S 18) 0 0) 15 x := by
  unfold thr
  simp only [mset_mput]
  rfl
theorem stTrade_o {S : Mem} {b s a : Int} {o : Nat} (a1 : o ≠ 18) (a2 : o ≠ 20) (a3 : o ≠ 24) (a4 : o ≠ 25) (a5 : o ≠ 26) (a6 : o ≠ 27) (a7 : o ≠ 28) : stTrade S b s a o = S o := by
  unfold stTrade thr
  rw [mset_o a1, mset_o a2, mset_o a7, mset_o a6, mset_o a5, mset_o a4, mset_o a3, mset_o a1]
theorem stTrade_c (S : Mem) (b s a : Int) : stTrade S b s a 18 = up (up (S 18) 0 0) 7 (S 18 7 + 1) ∧ stTrade S b s a 20 = adF (S 20) b s a ∧ stTrade S b s a 24 = up (S 24) (S 18 7) b ∧ stTrade S b s a 25 = up (S 25) (S 18 7) s ∧ stTrade S b s a 26 = up (S 26) (S 18 7) a ∧ stTrade S b s a 27 = up (S 27) (S 18 7) (S 18 14) ∧ stTrade S b s a 28 = up (S 28) (S 18 7) 0 := by
  unfold stTrade thr
  simp only [mset_mput]
  exact ⟨rfl, rfl, rfl, rfl, rfl, rfl, rfl⟩
theorem stDisp_o {S : Mem} {t : Int} {o : Nat} (a1 : o ≠ 18) (a2 : o ≠ 21) (a3 : o ≠ 28) (a4 : o ≠ 29) : stDisp S t o = S o := by
  unfold stDisp thr
  rw [mset_o a3, mset_o a2, mset_o a4, mset_o a1]
theorem stDisp_c (S : Mem) (t : Int) : stDisp S t 18 = up (S 18) 0 0 ∧ stDisp S t 21 = adF (S 21) (S 24 t) (S 25 t) (ptD S t) ∧ stDisp S t 28 = up (S 28) t 1 ∧ stDisp S t 29 = up (S 29) t (ptD S t) := by
  unfold stDisp thr
  simp only [mset_mput]
  exact ⟨rfl, rfl, rfl, rfl⟩
theorem stSett_o {S : Mem} {t z : Int} {o : Nat} (a1 : o ≠ 18) (a2 : o ≠ 20) (a3 : o ≠ 21) (a4 : o ≠ 28) (a5 : o ≠ 29) : stSett S t z o = S o := by
  unfold stSett thr
  rw [mput_ne a4, mput_ne a5, mput_ne a2, mput_ne a3, mset_o a1]
theorem stSett_c (S : Mem) (t z : Int) : stSett S t z 18 = up (S 18) 0 0 ∧ stSett S t z 20 = adF (adF (S 20) (S 24 t) (S 25 t) (-(pzS S t z))) (S 25 t) (S 24 t) (moS S t z) ∧ stSett S t z 21 = adF (S 21) (S 24 t) (S 25 t) (-(S 29 t)) ∧ stSett S t z 28 = up (S 28) t (if z = 0 then 0 else 2) ∧ stSett S t z 29 = up (S 29) t 0 := by
  unfold stSett thr
  simp only [mset_mput]
  exact ⟨rfl, rfl, rfl, rfl, rfl⟩
theorem stGu_o {S : Mem} {f s a : Int} {o : Nat} (a1 : o ≠ 18) (a2 : o ≠ 22) : stGu S f s a o = S o := by
  unfold stGu thr
  rw [mput_ne a2, mset_o a1]
theorem stGu_c (S : Mem) (f s a : Int) : stGu S f s a 18 = up (S 18) 0 0 ∧ stGu S f s a 22 = adF (S 22) f s a := by
  unfold stGu thr
  simp only [mset_mput]
  exact ⟨rfl, rfl⟩
theorem stLeav_o {S : Mem} {s : Int} {o : Nat} (a1 : o ≠ 18) (a2 : o ≠ 19) (a3 : o ≠ 20) (a4 : o ≠ 22) (a5 : o ≠ 23) : stLeav S s o = S o := by
  unfold stLeav thr
  rw [mset_o a2, mput_ne a5, mput_ne a4, mput_ne a3, mset_o a1]
theorem stLeav_c (S : Mem) (s : Int) : stLeav S s 18 = up (S 18) 0 0 ∧ stLeav S s 19 = up (S 19) s 0 ∧ stLeav S s 20 = (rlX S s).1 ∧ stLeav S s 22 = (rlX S s).2.1 ∧ stLeav S s 23 = up (S 23) s (rlX S s).2.2.1 := by
  unfold stLeav thr
  simp only [mset_mput]
  exact ⟨rfl, rfl, rfl, rfl, rfl⟩
/-! the class's -/
theorem putT_o {S : Mem} {n b s a d : Int} {o : Nat} (h3 : o ≠ 3) (h5 : o ≠ 5) : putT S n b s a d o = S o := by
  unfold putT
  rw [mset_o h3, ts_o h5, ts_o h5, ts_o h5, ts_o h5, ts_o h5]
theorem putT_3 {S : Mem} {n b s a d : Int} : putT S n b s a d 3 1 = n + 1 := by
  unfold putT
  exact mset_hit _ _ _ _
theorem putT_5 {S : Mem} {n b s a d : Int} (hn : 0 ≤ n ∧ n < 100) (t w : Int) : trd (putT S n b s a d) t w = if t = n ∧ w = 4 then d else if t = n ∧ w = 3 then a else if t = n ∧ w = 2 then s else if t = n ∧ w = 1 then b else if t = n ∧ w = 0 then 0 else trd S t w := by
  unfold putT
  rw [trd_o (mset_o (by decide)), trd_ts hn (by omega), trd_ts hn (by omega), trd_ts hn (by omega), trd_ts hn (by omega), trd_ts hn (by omega)]
theorem turnC_o {S : Mem} {t z f : Int} {o : Nat} (h5 : o ≠ 5) : turnC S t z f o = S o := by
  unfold turnC
  rw [ts_o h5, ts_o h5]
theorem turnC_5 {S : Mem} {t z f : Int} (hn : 0 ≤ t ∧ t < 100) (u w : Int) : trd (turnC S t z f) u w = if u = t ∧ w = 5 then f else if u = t ∧ w = 0 then z else trd S u w := by
  unfold turnC
  rw [trd_ts hn (by omega), trd_ts hn (by omega)]
section
variable {S S1 S2 : Mem} {r v : Int}
theorem fin_join (h : Iv S) (hw : WPq S (cxJoin S) (S 0 6) (trOne (cxJoin S)) (mset S 0 6 (S 0 6 + 1)) r S1) (hM : Iv (mg S S1)) (hr : RP S1 (cdJoin S1) (S1 18 1) (stJoin S1) v S2) : Fnl S S2 r v := by
  have hu := up_gen (fun o ho => mset_o (by omega)) hw
  have u18 := hu 18 (by decide) (by decide)
  have u19 := hu 19 (by decide) (by decide)
  have e : trOne (cxJoin S) = cdJoin S1 := cd_join (S := mg S S1) hM.1 hM.2.1
  have r4 := h.1.2.2.2.1
  have g1 := h.2.1.1
  refine fin_gen h hw hr (trOne_0 e) (trOne_1 e) (fun q => ⟨by rw [u18]; exact r4, by omega⟩) (fun q hS => ?_)
  have hj : S 0 6 < 8 := ite3 (by decide) q
  have k0 : stJoin S1 0 = up (S 0) 6 (S 0 6 + 1) := by
    rw [stJoin_o (by decide) (by decide), hS, mset_o (by decide), mset_mput, mput_same]
  have k18 : ∀ i : Int, i ≠ 0 → i ≠ 1 → stJoin S1 18 i = S 18 i := fun i i0 i1 => by rw [stJoin_18, up_ne i1, up_ne i0, u18]
  refine ⟨Iv_join h (by omega) (fun o o32 a0 a18 a19 => ?_) (by rw [k0, up_same]) (fun i i6 => by rw [k0, up_ne i6]) (by rw [stJoin_18, up_same, u18]) k18 (by rw [stJoin_19, u19, u18]), by rw [stJoin_18, up_ne (by decide), up_same], stJoin_o (by decide) (by decide), by rw [k18 14 (by decide) (by decide)]; omega⟩
  rw [stJoin_o a18 a19, hS, mset_o (by omega), mset_o a0]
theorem fin_fee (h : Iv S) {x : Int} (hw : WPq S (cxFee S x) (S 0 8) (trOne (cxFee S x)) (mset S 0 8 x) r S1) (hM : Iv (mg S S1)) (hr : RP S1 (cdFee x) (S1 18 15) (mset (thr S1 0) 18 15 x) v S2) : Fnl S S2 r v := by
  have hu := up_gen (fun o ho => mset_o (by omega)) hw
  have u18 := hu 18 (by decide) (by decide)
  have e : trOne (cxFee S x) = cdFee x := cd_fee
  have r6 := h.1.2.2.2.2.2.1
  have g4 := h.2.1.2.2.2.1
  refine fin_gen h hw hr (trOne_0 e) (trOne_1 e) (fun q => ⟨by rw [u18]; exact r6, by omega⟩) (fun q hS => ?_)
  have hx := xnR_in (sq_in q).1
  have k0 : mset (thr S1 0) 18 15 x 0 = up (S 0) 8 x := by
    rw [mset_o (by decide), (thr_facts S1 0).1 0 (by decide), hS, mset_o (by decide), mset_mput, mput_same]
  have k18 : ∀ i : Int, i ≠ 0 → i ≠ 15 → mset (thr S1 0) 18 15 x 18 i = S 18 i := fun i i0 i1 => by rw [stFee_18, up_ne i1, up_ne i0, u18]
  refine ⟨Iv_fee h hx (fun o o32 a0 a18 => ?_) (by rw [k0, up_same]) (fun i i6 => by rw [k0, up_ne i6]) (by rw [stFee_18, up_same]) k18, by rw [stFee_18, up_ne (by decide), up_same], ?_, by rw [k18 14 (by decide) (by decide)]; omega⟩
  · rw [mset_o a18, (thr_facts S1 0).1 o a18, hS, mset_o (by omega), mset_o a0]
  · rw [mset_o (by decide), (thr_facts S1 0).1 32 (by decide)]
theorem Iv_stGu (h : Iv S) {f s m val : Int} (hf : livR S f = true) (hs : livR S s = true) (hn : f ≠ s) (hm : 0 ≤ S 22 (ix f s) + m ∧ S 22 (ix f s) + m ≤ 1000) (hS : S1 = mset (mput S 12 (adF (S 12) f s m)) 32 0 val) : Iv (stGu S1 f s m) ∧ stGu S1 f s m 18 0 = 0 ∧ stGu S1 f s m 32 = S1 32 ∧ stGu S1 f s m 18 14 ≤ S 18 14 + 20 := by
  have u : ∀ o : Nat, o ≠ 12 → o ≠ 32 → S1 o = S o := fun o a b => by rw [hS, mset_o b, mput_ne a]
  obtain ⟨k1, k2⟩ := stGu_c S1 f s m
  have k18 : ∀ i : Int, i ≠ 0 → stGu S1 f s m 18 i = S 18 i := fun i i0 => by rw [k1, up_ne i0, u 18 (by decide) (by decide)]
  refine ⟨Iv_gu h hf hs hn hm (fun o o32 a12 a18 a22 => ?_) ?_ ?_ k18, by rw [k1, up_same], stGu_o (by decide) (by decide), by rw [k18 14 (by decide)]; omega⟩
  · rw [stGu_o a18 a22, u o a12 (by omega)]
  · rw [stGu_o (by decide) (by decide), hS, mset_o (by decide), mput_same]
  · rw [k2, u 22 (by decide) (by decide)]
theorem xnG_in {f s a : Int} (h : xnG S f s a = 0) : liv S f = true ∧ liv S s = true ∧ (1 ≤ a ∧ a ≤ 500) ∧ f ≠ s := by
  unfold xnG at h
  obtain ⟨h1, h⟩ := sq_in h
  obtain ⟨h2, h⟩ := sq_in h
  obtain ⟨h3, h⟩ := sq_in h
  obtain ⟨h4, -⟩ := sq_in h
  exact ⟨xnS_in h1, xnS_in h2, xnR_in h3, xnU_in h4⟩
theorem fin_guar (h : Iv S) {f s a : Int} (hw : WPq S (cxGuar S f s a) (S 12 (ix f s) + a) (tr123 (cxGuar S f s a)) (mput S 12 (adF (S 12) f s a)) r S1) (hM : Iv (mg S S1)) (hr : RP S1 (cdGuar S1 f s a) (S1 22 (ix f s) + a) (stGu S1 f s a) v S2) : Fnl S S2 r v := by
  have e : cxGuar S f s a = cdGuar S1 f s a := cd_guar (S := mg S S1) hM.1 hM.2.1 hM.2.2.2.2.2.1.2.1
  have e12 : S 12 = S1 22 := hM.1.2.2.1
  have hz : cxGuar S f s a = 0 → (livR S f = true ∧ livR S s = true) ∧ (1 ≤ a ∧ a ≤ 500) ∧ f ≠ s ∧ S 12 (ix f s) + a ≤ 1000 := fun q => by
    obtain ⟨q1, q2⟩ := sq_in q
    obtain ⟨a1, a2, a3, a4⟩ := xnG_in q1
    rw [rel_liv h.1] at a1 a2
    exact ⟨⟨a1, a2⟩, a3, a4, ite3 (by decide) (sq_in q2).1⟩
  have hx : cxGuar S f s a = 0 → 0 ≤ S 22 (ix f s) := fun q => by
    obtain ⟨⟨a1, a2⟩, -⟩ := hz q
    have l1 := livR_in a1 h.2.1
    have l2 := livR_in a2 h.2.1
    exact (Iv_ent h (i := f) (j := s) (by omega) (by omega)).2.2.1
  have r3 := h.1.2.2.1
  refine fin_gen h hw hr (fun q => by rw [← e]; exact q) (tr123_1 e cd3_guar) (fun q => ?_) (fun q hS => ?_)
  · have a1 := hz q
    have a2 := hx q
    rw [← r3] at a2
    exact ⟨by rw [e12], by omega⟩
  · obtain ⟨⟨a1, a2⟩, a3, a4, a5⟩ := hz q
    have a6 := hx q
    rw [r3] at a5
    exact Iv_stGu h a1 a2 a4 ⟨by omega, a5⟩ hS
theorem fin_revo (h : Iv S) {f s a : Int} (hw : WPq S (cxRevo S f s a) (S 12 (ix f s) + (-a)) (tr123 (cxRevo S f s a)) (mput S 12 (adF (S 12) f s (-a))) r S1) (hM : Iv (mg S S1)) (hr : RP S1 (cdRevo S1 f s a) (S1 22 (ix f s) + (-a)) (stGu S1 f s (-a)) v S2) : Fnl S S2 r v := by
  have e : cxRevo S f s a = cdRevo S1 f s a := cd_revo (S := mg S S1) hM.1 hM.2.1 hM.2.2.2.2.2.1.2.1
  have e12 : S 12 = S1 22 := hM.1.2.2.1
  have hz : cxRevo S f s a = 0 → (livR S f = true ∧ livR S s = true) ∧ (1 ≤ a ∧ a ≤ 500) ∧ f ≠ s ∧ a ≤ S 12 (ix f s) := fun q => by
    obtain ⟨q1, q2⟩ := sq_in q
    obtain ⟨a1, a2, a3, a4⟩ := xnG_in q1
    rw [rel_liv h.1] at a1 a2
    exact ⟨⟨a1, a2⟩, a3, a4, ite3 (by decide) (sq_in q2).1⟩
  have hx : cxRevo S f s a = 0 → S 22 (ix f s) ≤ 1000 := fun q => by
    obtain ⟨⟨a1, a2⟩, -⟩ := hz q
    have l1 := livR_in a1 h.2.1
    have l2 := livR_in a2 h.2.1
    exact (Iv_ent h (i := f) (j := s) (by omega) (by omega)).2.2.2
  have r3 := h.1.2.2.1
  refine fin_gen h hw hr (fun q => by rw [← e]; exact q) (tr123_1 e cd3_revo) (fun q => ?_) (fun q hS => ?_)
  · have a1 := hz q
    have a2 := hx q
    rw [← r3] at a2
    exact ⟨by rw [e12], by omega⟩
  · obtain ⟨⟨a1, a2⟩, a3, a4, a5⟩ := hz q
    have a6 := hx q
    rw [r3] at a5
    exact Iv_stGu h a1 a2 a4 ⟨by omega, by omega⟩ hS
theorem up_trade {b s a : Int} (o : Nat) (ho : 18 ≤ o) : stTradeC S b s a o = S o := by
  unfold stTradeC
  rw [putT_o (by omega) (by omega), mput_ne (by omega)]
theorem fin_trade (h : Iv S) {b s a : Int} (hw : WPq S (cxTrade S b s a) (S 3 1) (tr123 (cxTrade S b s a)) (stTradeC S b s a) r S1) (hM : Iv (mg S S1)) (hr : RP S1 (cdTrade S1 b s a) (S1 18 7) (stTrade S1 b s a) v S2) : Fnl S S2 r v := by
  have hu := up_gen up_trade hw
  have u18 := hu 18 (by decide) (by decide)
  have e : cxTrade S b s a = cdTrade S1 b s a := cd_trade (S := mg S S1) hM.1 hM.2.1 hM.2.2.2.2.2.1.2.1
  have r5 := h.1.2.2.2.2.1
  have r7 := h.1.2.2.2.2.2.2.1
  have g2 := h.2.1.2.1
  refine fin_gen h hw hr (fun q => by rw [← e]; exact q) (tr123_1 e cd3_trade) (fun q => ⟨by rw [u18]; exact r7, by omega⟩) (fun q hS => ?_)
  obtain ⟨q1, q⟩ := sq_in q
  obtain ⟨q2, q⟩ := sq_in q
  obtain ⟨q3, q⟩ := sq_in q
  obtain ⟨q4, q⟩ := sq_in q
  obtain ⟨q5, -⟩ := sq_in q
  have l1 := xnS_li h.1 q1
  have l2 := xnS_li h.1 q2
  have l3 := xnR_in q3
  have l4 := xnU_in q4
  have l5 : S 3 1 < 100 := ite3 (by decide) q5
  have hn : 0 ≤ S 3 1 ∧ S 3 1 < 100 := by omega
  obtain ⟨k18, k20, k24, k25, k26, k27, k28⟩ := stTrade_c S1 b s a
  have m18 : ∀ i : Int, i ≠ 0 → i ≠ 7 → stTrade S1 b s a 18 i = S 18 i := fun i i0 i7 => by rw [k18, up_ne i7, up_ne i0, u18]
  have cl : ∀ o : Nat, o < 18 → stTrade S1 b s a o = stTradeC S b s a o := fun o ho => by
    rw [stTrade_o (by omega) (by omega) (by omega) (by omega) (by omega) (by omega) (by omega), hS, mset_o (by omega)]
  have tr : ∀ t w : Int, trd (stTrade S1 b s a) t w = if t = S 18 7 ∧ w = 4 then S 0 7 else if t = S 18 7 ∧ w = 3 then a else if t = S 18 7 ∧ w = 2 then s else if t = S 18 7 ∧ w = 1 then b else if t = S 18 7 ∧ w = 0 then 0 else trd S t w := fun t w => by
    rw [trd_o (cl 5 (by decide))]
    unfold stTradeC
    rw [putT_5 hn, r7, trd_o (mput_ne (by decide))]
  refine ⟨Iv_trade h l1 l2 l4 l3 (by omega) (fun o o32 a3 a5 a8 a18 a20 a24 a25 a26 a27 a28 => ?_) ?_ (fun t w ht => ?_) ?_ ?_ ?_ ?_ ?_ ?_ ?_ (by rw [k20, hu 20 (by decide) (by decide)]) (by rw [k24, u18, hu 24 (by decide) (by decide)]) (by rw [k25, u18, hu 25 (by decide) (by decide)]) (by rw [k26, u18, hu 26 (by decide) (by decide)]) (by rw [k27, u18, hu 27 (by decide) (by decide)]) (by rw [k28, u18, hu 28 (by decide) (by decide)]) (by rw [k18, up_same, u18]) m18, by rw [k18, up_ne (by decide), up_same], stTrade_o (by decide) (by decide) (by decide) (by decide) (by decide) (by decide) (by decide), by rw [m18 14 (by decide) (by decide)]; omega⟩
  · by_cases c : o < 18
    · rw [cl o c]
      unfold stTradeC
      rw [putT_o a3 a5, mput_ne a8]
    · rw [stTrade_o a18 a20 a24 a25 a26 a27 a28]
      exact hu o (by omega) o32
  · rw [cl 3 (by decide)]
    exact putT_3
  · rw [tr t w, if_neg (fun z => ht z.1), if_neg (fun z => ht z.1), if_neg (fun z => ht z.1), if_neg (fun z => ht z.1), if_neg (fun z => ht z.1)]
  · rw [tr, if_neg (by omega), if_neg (by omega), if_neg (by omega), if_neg (by omega), if_pos ⟨rfl, rfl⟩]
  · rw [tr, if_neg (by omega), if_neg (by omega), if_neg (by omega), if_pos ⟨rfl, rfl⟩]
  · rw [tr, if_neg (by omega), if_neg (by omega), if_pos ⟨rfl, rfl⟩]
  · rw [tr, if_neg (by omega), if_pos ⟨rfl, rfl⟩]
  · rw [tr, if_pos ⟨rfl, rfl⟩, r5]
  · rw [tr, if_neg (by omega), if_neg (by omega), if_neg (by omega), if_neg (by omega), if_neg (by omega)]
  · rw [cl 8 (by decide)]
    unfold stTradeC
    rw [putT_o (by decide) (by decide), mput_same]
end
