/-! ===== the law's steps: dispute, settle, leave, night ===== -/
section
variable {S S1 S2 : Mem} {r v : Int}
theorem up_disp {t : Int} (o : Nat) (ho : 18 ≤ o) : stDispC S t o = S o := by
  unfold stDispC
  rw [turnC_o (by omega), mput_ne (by omega)]
theorem fin_disp (h : Iv S) {t : Int} (hw : WPq S (cxDisp S t) (ptDC S t) (tr12 (cxDisp S t)) (stDispC S t) r S1) (hM : Iv (mg S S1)) (hr : RP S1 (cdDisp S1 t) (ptD S1 t) (stDisp S1 t) v S2) : Fnl S S2 r v := by
  have hu := up_gen up_disp hw
  have u18 := hu 18 (by decide) (by decide)
  have u19 := hu 19 (by decide) (by decide)
  have u20 := hu 20 (by decide) (by decide)
  have u21 := hu 21 (by decide) (by decide)
  have u24 := hu 24 (by decide) (by decide)
  have u25 := hu 25 (by decide) (by decide)
  have u26 := hu 26 (by decide) (by decide)
  have u28 := hu 28 (by decide) (by decide)
  have u29 := hu 29 (by decide) (by decide)
  have g7 := h.2.1.2.2.2.2.2.2
  have hT := h.2.2.2.2.2.2.1
  have r7 := h.1.2.2.2.2.2.2.1
  have e : tr12 (cxDisp S t) = cdDisp S1 t ∨ cxDisp S t = 0 ∧ cdDisp S1 t = 0 := cd_disp (S := mg S S1) hM.1 hM.2.1 (fun t t0 t1 => by
    show (0 ≤ S1 24 t ∧ S1 24 t < S1 18 1) ∧ 0 ≤ S1 25 t ∧ S1 25 t < S1 18 1
    have t1 : t < S1 18 7 := t1
    rw [u18] at t1
    rw [u24, u25, u18]
    have a := hT t t0 t1
    have b := g7 t
    omega)
  have hz : cxDisp S t = 0 → (0 ≤ t ∧ t < S 3 1) ∧ S 28 t = 0 ∧ livR S (S 24 t) = true ∧ livR S (S 25 t) = true := fun q => by
    obtain ⟨q1, q2⟩ := sq_in3 q
    have c := xnT_in q1
    obtain ⟨a0, a1, a2, -⟩ := h.1.2.2.2.2.2.2.2.2.1 t c.1 c.2
    obtain ⟨b1, b2, b3⟩ := ite3 (by decide) q2
    rw [a0] at b1
    rw [a1, rel_liv h.1] at b2
    rw [a2, rel_liv h.1] at b3
    exact ⟨c, b1, b2, b3⟩
  have hp : cxDisp S t = 0 → ptDC S t = ptD S t := fun q => by
    obtain ⟨c, -⟩ := hz q
    obtain ⟨a0, a1, a2, a3, -⟩ := h.1.2.2.2.2.2.2.2.2.1 t c.1 c.2
    unfold ptDC ptD
    rw [a1, a2, a3, h.1.1, h.1.2.1]
  have hp1 : ptD S1 t = ptD S t := by
    unfold ptD
    rw [u20, u21, u24, u25, u26]
  refine fin_gen h hw hr (fun q => ?_) (tr12_1 e) (fun q => ?_) (fun q hS => ?_)
  · obtain ⟨c, b1, b2, b3⟩ := hz q
    have d1 := livR_in b2 h.2.1
    have d2 := livR_in b3 h.2.1
    unfold cdDisp trR
    rw [u18, u28, u19, u24, u25, decide_eq_true ⟨c.1, by omega⟩, if_neg (by decide), if_pos ⟨b1, by omega, by omega⟩]
  · obtain ⟨c, -⟩ := hz q
    have b := g7 t
    have d := Iv_ent h (i := S 24 t) (j := S 25 t) (by omega) (by omega)
    have m := mn_le (S 26 t) (S 20 (ix (S 24 t) (S 25 t)) - S 21 (ix (S 24 t) (S 25 t)))
    refine ⟨by rw [hp q, hp1], ?_⟩
    rw [hp q]
    unfold ptD
    omega
  · obtain ⟨c, b1, b2, b3⟩ := hz q
    obtain ⟨a0, a1, a2, a3, -⟩ := h.1.2.2.2.2.2.2.2.2.1 t c.1 c.2
    have hn : 0 ≤ t ∧ t < 100 := by
      have := h.2.1.2.1
      omega
    obtain ⟨k18, k21, k28, k29⟩ := stDisp_c S1 t
    have m18 : ∀ i : Int, i ≠ 0 → stDisp S1 t 18 i = S 18 i := fun i i0 => by rw [k18, up_ne i0, u18]
    have cl : ∀ o : Nat, o < 18 → stDisp S1 t o = stDispC S t o := fun o ho => by
      rw [stDisp_o (by omega) (by omega) (by omega) (by omega), hS, mset_o (by omega)]
    have tr : ∀ u w : Int, trd (stDisp S1 t) u w = if u = t ∧ w = 5 then ptDC S t else if u = t ∧ w = 0 then 1 else trd S u w := fun u w => by
      rw [trd_o (cl 5 (by decide))]
      unfold stDispC
      rw [turnC_5 hn, trd_o (mput_ne (by decide))]
    refine ⟨Iv_disp h c.1 (by omega) b1 b2 b3 (fun o o32 a5 a10 a18 a21 a28 a29 => ?_) (fun u w hw => ?_) ?_ ?_ ?_ (by rw [k21, hp1, u21, u24, u25]) (by rw [k28, u28]) (by rw [k29, u29, hp1]) m18, by rw [k18, up_same], stDisp_o (by decide) (by decide) (by decide) (by decide), by rw [m18 14 (by decide)]; omega⟩
    · by_cases c : o < 18
      · rw [cl o c]
        unfold stDispC
        rw [turnC_o a5, mput_ne a10]
      · rw [stDisp_o a18 a21 a28 a29]
        exact hu o (by omega) o32
    · rw [tr, if_neg (fun z => hw ⟨z.1, Or.inr z.2⟩), if_neg (fun z => hw ⟨z.1, Or.inl z.2⟩)]
    · rw [tr, if_neg (by omega), if_pos ⟨rfl, rfl⟩]
    · rw [tr, if_pos ⟨rfl, rfl⟩, hp q]
    · rw [cl 10 (by decide)]
      unfold stDispC
      rw [turnC_o (by decide), mput_same, a1, a2, hp q]
theorem st1C_o {t z : Int} {o : Nat} (h5 : o ≠ 5) (h10 : o ≠ 10) : st1C S t z o = S o := by
  unfold st1C
  rw [turnC_o h5, mput_ne h10]
theorem st1C_10 {t z : Int} : st1C S t z 10 = adF (S 10) (trd S t 1) (trd S t 2) (-(trd S t 5)) := by
  unfold st1C
  rw [turnC_o (by decide), mput_same]
theorem st1C_5 {t z : Int} (hn : 0 ≤ t ∧ t < 100) (u w : Int) : trd (st1C S t z) u w = if u = t ∧ w = 5 then 0 else if u = t ∧ w = 0 then z else trd S u w := by
  unfold st1C
  rw [turnC_5 hn, trd_o (mput_ne (by decide))]
theorem stSettC_o {t z : Int} {o : Nat} (h5 : o ≠ 5) (h8 : o ≠ 8) (h10 : o ≠ 10) : stSettC S t z o = S o := by
  unfold stSettC
  split
  · exact st1C_o h5 h10
  · rw [mput_ne h8, mput_ne h8]
    exact st1C_o h5 h10
theorem up_sett {t z : Int} (o : Nat) (ho : 18 ≤ o) : stSettC S t z o = S o := stSettC_o (by omega) (by omega) (by omega)
theorem fin_sett (h : Iv S) {t z : Int} (hw : WPq S (cxSett S t) (moSC S t z) (tr12 (cxSett S t)) (stSettC S t z) r S1) (hM : Iv (mg S S1)) (hr : RP S1 (cdSett S1 t) (moS S1 t z) (stSett S1 t z) v S2) : Fnl S S2 r v := by
  have hu := up_gen up_sett hw
  have u18 := hu 18 (by decide) (by decide)
  have u20 := hu 20 (by decide) (by decide)
  have u21 := hu 21 (by decide) (by decide)
  have u24 := hu 24 (by decide) (by decide)
  have u25 := hu 25 (by decide) (by decide)
  have u26 := hu 26 (by decide) (by decide)
  have u28 := hu 28 (by decide) (by decide)
  have u29 := hu 29 (by decide) (by decide)
  have g7 := h.2.1.2.2.2.2.2.2
  have r7 := h.1.2.2.2.2.2.2.1
  have e : tr12 (cxSett S t) = cdSett S1 t ∨ cxSett S t = 0 ∧ cdSett S1 t = 0 := cd_sett (S := mg S S1) hM.1
  have hz : cxSett S t = 0 → (0 ≤ t ∧ t < S 3 1) ∧ S 28 t = 1 := fun q => by
    obtain ⟨q1, q2⟩ := sq_in3 q
    have c := xnT_in q1
    obtain ⟨a0, -⟩ := h.1.2.2.2.2.2.2.2.2.1 t c.1 c.2
    have b1 := ite3 (by decide) q2
    rw [a0] at b1
    exact ⟨c, b1⟩
  have hn : cxSett S t = 0 → 0 ≤ t ∧ t < 100 := fun q => by
    have a := h.2.1.2.1
    have b := hz q
    omega
  have hmo : cxSett S t = 0 → moSC S t z = moS S t z := fun q => by
    obtain ⟨c, -⟩ := hz q
    obtain ⟨a0, a1, a2, a3, a4, a5⟩ := h.1.2.2.2.2.2.2.2.2.1 t c.1 c.2
    unfold moSC moS
    rw [st1C_5 (hn q), if_neg (c := t = t ∧ (3 : Int) = 5) (by omega), if_neg (c := t = t ∧ (3 : Int) = 0) (by omega), a3, a5]
  have hmo1 : moS S1 t z = moS S t z := by
    unfold moS
    rw [u26, u29]
  have hpz1 : pzS S1 t z = pzS S t z := by
    unfold pzS
    rw [u29]
  refine fin_gen h hw hr (fun q => ?_) (tr12_1 e) (fun q => ?_) (fun q hS => ?_)
  · obtain ⟨c, b1⟩ := hz q
    unfold cdSett trR
    rw [u18, u28, decide_eq_true ⟨c.1, by omega⟩, if_neg (by decide), if_pos b1]
  · have b := g7 t
    refine ⟨by rw [hmo q, hmo1], ?_⟩
    rw [hmo q]
    unfold moS
    split <;> omega
  · obtain ⟨c, b1⟩ := hz q
    obtain ⟨a0, a1, a2, a3, a4, a5⟩ := h.1.2.2.2.2.2.2.2.2.1 t c.1 c.2
    have hn := hn q
    obtain ⟨k18, k20, k21, k28, k29⟩ := stSett_c S1 t z
    have m18 : ∀ i : Int, i ≠ 0 → stSett S1 t z 18 i = S 18 i := fun i i0 => by rw [k18, up_ne i0, u18]
    have cl : ∀ o : Nat, o < 18 → stSett S1 t z o = stSettC S t z o := fun o ho => by
      rw [stSett_o (by omega) (by omega) (by omega) (by omega) (by omega), hS, mset_o (by omega)]
    have t5 : ∀ u w : Int, trd (stSettC S t z) u w = if u = t ∧ w = 5 then 0 else if u = t ∧ w = 0 then (if z = 0 then 0 else 2) else trd S u w := fun u w => by
      unfold stSettC
      by_cases qz : z = 0
      · rw [if_pos qz, if_pos qz, st1C_5 hn]
      · rw [if_neg qz, if_neg qz, trd_o (mput_ne (by decide)), trd_o (mput_ne (by decide)), st1C_5 hn]
    have t10 : stSettC S t z 10 = adF (S 10) (trd S t 1) (trd S t 2) (-(trd S t 5)) := by
      unfold stSettC
      split
      · exact st1C_10
      · rw [mput_ne (by decide), mput_ne (by decide)]
        exact st1C_10
    have t8 : stSettC S t z 8 = adF (adF (S 8) (S 24 t) (S 25 t) (-(pzS S t z))) (S 25 t) (S 24 t) (moS S t z) := by
      unfold stSettC pzS moS
      by_cases qz : z = 0
      · rw [if_pos qz, if_pos qz, if_pos qz, st1C_o (by decide) (by decide), Int.neg_zero, adF_0, adF_0]
      · rw [if_neg qz, if_neg qz, if_neg qz, mput_same, st1C_o (by decide) (by decide), st1C_5 hn, if_neg (by omega), if_neg (by omega), a1, a2, a3, a5]
    refine ⟨Iv_sett h (st := if z = 0 then 0 else 2) (pz := pzS S t z) (mo := moS S t z) c.1 (by omega) b1 ?_ (fun o o32 a5 a8 a10 a18 a20 a21 a28 a29 => ?_) (fun u w hw => ?_) ?_ ?_ (by rw [cl 8 (by decide), t8]) (by rw [k20, hpz1, hmo1, u20, u24, u25]) (by rw [cl 10 (by decide), t10, a1, a2, a5]) (by rw [k21, u21, u24, u25, u29]) (by rw [k28, u28]) (by rw [k29, u29]) m18, by rw [k18, up_same], stSett_o (by decide) (by decide) (by decide) (by decide) (by decide), by rw [m18 14 (by decide)]; omega⟩
    · unfold pzS moS
      by_cases qz : z = 0
      · rw [if_pos qz, if_pos qz, if_pos qz]
        exact Or.inl ⟨rfl, rfl, rfl⟩
      · rw [if_neg qz, if_neg qz, if_neg qz]
        exact Or.inr ⟨rfl, rfl, rfl⟩
    · by_cases c : o < 18
      · rw [cl o c]
        exact stSettC_o a5 a8 a10
      · rw [stSett_o a18 a20 a21 a28 a29]
        exact hu o (by omega) o32
    · rw [trd_o (cl 5 (by decide)), t5, if_neg (fun z => hw ⟨z.1, Or.inr z.2⟩), if_neg (fun z => hw ⟨z.1, Or.inl z.2⟩)]
    · rw [trd_o (cl 5 (by decide)), t5, if_neg (by omega), if_pos ⟨rfl, rfl⟩]
    · rw [trd_o (cl 5 (by decide)), t5, if_pos ⟨rfl, rfl⟩]
theorem lvE_o {s : Int} {o : Nat} (h8 : o ≠ 8) (h12 : o ≠ 12) (h14 : o ≠ 14) : lvE S s o = S o := by
  unfold lvE lvC lvA m2 m3
  rw [mput_ne h14, mput_ne h8, mput_ne h14, mput_ne h8, mput_ne h14, mput_ne h12, mput_ne h8, mput_ne h8]
theorem up_leav {s : Int} (hs : 0 ≤ s ∧ s < 8) (o : Nat) (h2 : o ≠ 2) : stLeavC S s o = if o = 12 then wpF s 9 9 (lvE S s 12) else lvE S s o := by
  unfold stLeavC
  rw [ts_o h2, ts_o h2, tclr_is (by omega) 9 (by omega)]
  by_cases q : o = 12
  · rw [if_pos q, q, mput_same]
  · rw [if_neg q, mput_ne q]
theorem leav_up {s : Int} (o : Nat) (ho : 18 ≤ o) : stLeavC S s o = S o := by
  unfold stLeavC
  rw [ts_o (by omega), ts_o (by omega)]
  have e : ∀ n : Nat, tclr 12 9 9 s (lvE S s) n o = lvE S s o := by
    intro n
    induction n with
    | zero => rfl
    | succ n ih =>
      show ts (ts (tclr 12 9 9 s (lvE S s) n) 12 9 9 s n 0) 12 9 9 n s 0 o = _
      rw [ts_o (by omega), ts_o (by omega), ih]
  rw [e, lvE_o (by omega) (by omega) (by omega)]
theorem fin_leav (h : Iv S) {s : Int} (hw : WPq S (cxLeav S s) ((lvB S s).2.2 + (lvD S s).2.2) (tr12 (cxLeav S s)) (stLeavC S s) r S1) (hM : Iv (mg S S1)) (hr : RP S1 (cdLeav S1 s) (rlX S1 s).2.2.2 (stLeav S1 s) v S2) (hval : cxLeav S s = 0 → -2147483648 ≤ (lvB S s).2.2 + (lvD S s).2.2 ∧ (lvB S s).2.2 + (lvD S s).2.2 < 2147483648) : Fnl S S2 r v := by
  have hu := up_gen (fun o ho => leav_up o ho) hw
  have u18 := hu 18 (by decide) (by decide)
  have u19 := hu 19 (by decide) (by decide)
  have u20 := hu 20 (by decide) (by decide)
  have u22 := hu 22 (by decide) (by decide)
  have u23 := hu 23 (by decide) (by decide)
  have u24 := hu 24 (by decide) (by decide)
  have u25 := hu 25 (by decide) (by decide)
  have u28 := hu 28 (by decide) (by decide)
  have e : tr12 (cxLeav S s) = cdLeav S1 s ∨ cxLeav S s = 0 ∧ cdLeav S1 s = 0 := cd_leave (S := mg S S1) hM.1
  have hX : rlX S1 s = rlX S s := rlX_same u20 u22 u23
  have hz : cxLeav S s = 0 → livR S s = true ∧ anyI (fun t => isofR S s t && decide (S 28 t = 1)) (S 18 7).toNat = false := fun q => by
    obtain ⟨q1, q2⟩ := sq_in3 q
    refine ⟨xnS_li h.1 q1, ?_⟩
    rw [← rel_disp h.1]
    cases z : anyI (fun t => isof S s t && decide (trd S t 0 = 1)) (S 3 1).toNat with
    | false => rfl
    | true => rw [z] at q2; exact absurd q2 (by decide)
  have hlv : cxLeav S s = 0 → lvE S s 8 = (rlX S s).1 ∧ wpF s 9 9 (lvE S s 12) = (rlX S s).2.1 ∧ (lvB S s).2.2 + (lvD S s).2.2 = (rlX S s).2.2.2 ∧ (lvB S s).2.2 - (lvD S s).2.2 = (rlX S s).2.2.1 := fun q => by
    obtain ⟨a, -⟩ := hz q
    have hi := livR_in a h.2.1
    exact leave_is h.1 ⟨hi.1, hi.2.1⟩ (Iv_ok h) (Iv_okg h) h.2.2.2.2.1.2 ((h.2.2.2.2.2.2.2.2.1 s hi.1 hi.2.1).1 (Or.inl hi.2.2.2))
  refine fin_gen h hw hr (fun q => ?_) (tr12_1 e) (fun q => ⟨by rw [(hlv q).2.2.1, hX], hval q⟩) (fun q hS => ?_)
  · obtain ⟨a, b⟩ := hz q
    have a' : livR S1 s = true := by rw [fr_liv (by rw [u18]) u19]; exact a
    have b' : anyI (fun t => isofR S1 s t && decide (S1 28 t = 1)) (S1 18 7).toNat = false := by
      unfold isofR at b ⊢
      rw [u18, u24, u25, u28]; exact b
    unfold cdLeav
    rw [a', if_neg (by decide), b', if_neg (by decide)]
  · obtain ⟨a, b⟩ := hz q
    have hi := livR_in a h.2.1
    have hs : 0 ≤ s ∧ s < 8 := ⟨hi.1, hi.2.1⟩
    obtain ⟨k18, k19, k20, k22, k23⟩ := stLeav_c S1 s
    have m18 : ∀ i : Int, i ≠ 0 → stLeav S1 s 18 i = S 18 i := fun i i0 => by rw [k18, up_ne i0, u18]
    have cl : ∀ o : Nat, o < 18 → stLeav S1 s o = stLeavC S s o := fun o ho => by
      rw [stLeav_o (by omega) (by omega) (by omega) (by omega) (by omega), hS, mset_o (by omega)]
    have t2 : ∀ u w : Int, tg 8 2 (stLeav S1 s 2) u w = if u = s ∧ w = 1 then (lvB S s).2.2 - (lvD S s).2.2 else if u = s ∧ w = 0 then 1 else tg 8 2 (S 2) u w := fun u w => by
      rw [cl 2 (by decide)]
      unfold stLeavC
      rw [ts2 hs (by omega), mput_same, tg2_up hs (by omega), ts2 hs (by omega), mput_same, tg2_up hs (by omega), tclr_is (by omega) 9 (by omega), mput_ne (by decide), lvE_o (by decide) (by decide) (by decide)]
    have hT : Iv (stLeav S1 s) := by
      refine Iv_leave h a b (fun o o32 a2 a8 a12 a14 a18 a19 a20 a22 a23 => ?_) ?_ ?_ ?_ (by rw [k20, hX]) (by rw [k22, hX]) (by rw [k23, hX, u23]) (by rw [k19, u19]) ?_ ?_ (fun u w hu => ?_) m18
      · by_cases c : o < 18
        · rw [cl o c, up_leav hs o a2, if_neg a12]
          exact lvE_o a8 a12 a14
        · rw [stLeav_o a18 a19 a20 a22 a23]
          exact hu o (by omega) o32
      · rw [cl 8 (by decide), up_leav hs 8 (by decide), if_neg (by decide)]
      · rw [cl 12 (by decide), up_leav hs 12 (by decide), if_pos rfl]
      · rw [cl 14 (by decide), up_leav hs 14 (by decide), if_neg (by decide)]
      · rw [t2, if_neg (by omega), if_pos ⟨rfl, rfl⟩]
      · rw [t2, if_pos ⟨rfl, rfl⟩]
      · rw [t2, if_neg (fun z => hu z.1), if_neg (fun z => hu z.1)]
    exact ⟨hT, by rw [k18, up_same], stLeav_o (by decide) (by decide) (by decide) (by decide) (by decide), by rw [m18 14 (by decide)]; omega⟩
theorem hv_leav (h : Iv S) {s : Int} (q : cxLeav S s = 0) : -2147483648 ≤ (lvB S s).2.2 + (lvD S s).2.2 ∧ (lvB S s).2.2 + (lvD S s).2.2 < 2147483648 := by
  have a := xnS_li h.1 (sq_in3 q).1
  have hi := livR_in a h.2.1
  have g0 := (h.2.2.2.2.2.2.2.2.1 s hi.1 hi.2.1).1 (Or.inl hi.2.2.2)
  have e := leave_is h.1 ⟨hi.1, hi.2.1⟩ (Iv_ok h) (Iv_okg h) h.2.2.2.2.1.2 g0
  have J := (lvP_J h a).1.1
  have e2 := rlI_ok (s := s) (x := ((lvP S s).1, (lvP S s).2.1, S 23 s, 0)) (by omega) ⟨fun i j i0 i9 j0 j9 => J.1.ent ⟨i0, i9⟩ ⟨j0, j9⟩, by show _ ≤ S 23 s; omega, by show S 23 s ≤ _; omega, by show (0 : Int) ≤ 0; omega, by show (0 : Int) ≤ _; omega⟩ 9 (by omega)
  have e3 : 0 ≤ (rlX S s).2.2.2 := e2.2.2.2.1
  have e4 : (rlX S s).2.2.2 ≤ 400000 * ((9 : Nat) : Int) := e2.2.2.2.2
  rw [e.2.2.1]
  omega
theorem fin_nigh (h : Iv S) {x : Int} (ht : S 18 14 + 20 ≤ 20000) (hw : (cxNight x = 0 → r = 0 ∧ ∃ v1 S3, (v1 = S3 0 7 ∧ ngC x.toNat S S3) ∧ S1 = mset S3 32 0 v1) ∧ (cxNight x ≠ 0 → r = trOne (cxNight x) ∧ S1 = S)) (hr : (cdNight x ≠ 0 → S2 = thr S1 (cdNight x)) ∧ (cdNight x = 0 → v = S2 18 14 ∧ ngN x.toNat (thr S1 0) S2)) : Fnl S S2 r v := by
  have e : trOne (cxNight x) = cdNight x := cd_night
  by_cases q : cxNight x = 0
  · have hx := xnR_in (sq_in q).1
    obtain ⟨e1, v1, S3, ⟨e2, e3⟩, e4⟩ := hw.1 q
    obtain ⟨e5, e6⟩ := hr.2 (trOne_0 e q)
    have r5 := h.1.2.2.2.2.1
    have fr := ngC_fr (Iv_nGdC h) e3 (by omega)
    have T18 : ∀ i : Int, i ≠ 0 → thr S1 0 18 i = S 18 i := fun i i0 => by rw [(thr_facts S1 0).2.1 i i0, e4, mset_o (by decide), fr 18 (by decide)]
    have To : ∀ o : Nat, 18 ≤ o → o < 32 → o ≠ 18 → thr S1 0 o = S o := fun o a b c => by rw [(thr_facts S1 0).1 o c, e4, mset_o (by omega), fr o a]
    have hM0 : Iv (mg S (thr S1 0)) := Iv_cong (fun o o32 o18 => by
      by_cases z : o < 18
      · rw [mgC _ _ z]
      · rw [mgR _ _ z]; exact To o (by omega) o32 o18) (fun i i0 => by
      rw [mgR _ _ (by decide)]
      exact T18 i i0) h
    have t14 := T18 14 (by decide)
    obtain ⟨k1, k2⟩ := Iv_nights hM0 e3 e6 (by omega)
    have nf := fun o a b c d => ngN_fr e6 o a b c d
    have gd := ngN_gd e6 (Iv_nGd (S := mg S (thr S1 0)) hM0) (by omega)
    have Sl : ∀ o : Nat, o < 18 → S2 o = S3 o := fun o ho => by
      rw [nf o (by omega) (by omega) (by omega) (by omega), (thr_facts S1 0).1 o (by omega), e4, mset_o (by omega)]
    have r5' : S3 0 7 = S2 18 14 := k1.1.2.2.2.2.1
    have g3 : 0 ≤ S2 18 14 ∧ S2 18 14 ≤ 20000 := k1.2.1.2.2.1
    refine ⟨Iv_cong (fun o o32 o18 => ?_) (fun i i0 => ?_) k1, by rw [gd.2.2, (thr_facts S1 0).2.2, e1], by omega, fun _ => ⟨?_, by omega⟩, by omega⟩
    · by_cases z : o < 18
      · rw [mgC _ _ z]; exact Sl o z
      · rw [mgR _ _ z]
    · rw [mgR _ _ (by decide)]
    · rw [nf 32 (by decide) (by decide) (by decide) (by decide), (thr_facts S1 0).1 32 (by decide), e4, mset_hit, e2, r5', e5]
  · obtain ⟨e1, e2⟩ := hw.2 q
    obtain ⟨f1, f2, f3⟩ := trOne_1 e q
    have e3 := hr.1 (by omega)
    rw [e3, e2]
    refine ⟨Iv_thr _ h, ?_, by omega, fun z => by omega, ?_⟩
    · rw [(thr_facts S _).2.2]; omega
    · rw [(thr_facts S _).2.1 14 (by decide)]; omega
theorem hv_nigh (h : Iv S) {x : Int} (ht : S 18 14 + 20 ≤ 20000) (q : cxNight x = 0) : ∀ v S', (fun v S' => v = S' 0 7 ∧ ngC x.toNat S S') v S' → -2147483648 ≤ v ∧ v < 2147483648 := by
  intro v S' hh
  obtain ⟨e1, e2⟩ := hh
  have hx := xnR_in (sq_in q).1
  have r5 := h.1.2.2.2.2.1
  have g3 := h.2.1.2.2.1
  have e := (ngC_gd e2 (Iv_nGdC h) (by omega)).2
  omega
theorem up_nigh (h : Iv S) {x : Int} (ht : S 18 14 + 20 ≤ 20000) (hw : (cxNight x = 0 → r = 0 ∧ ∃ v1 S3, (v1 = S3 0 7 ∧ ngC x.toNat S S3) ∧ S1 = mset S3 32 0 v1) ∧ (cxNight x ≠ 0 → r = trOne (cxNight x) ∧ S1 = S)) : ∀ o : Nat, 18 ≤ o → o < 32 → S1 o = S o := by
  intro o o18 o32
  have r5 := h.1.2.2.2.2.1
  by_cases q : cxNight x = 0
  · have hx := xnR_in (sq_in q).1
    obtain ⟨e1, v1, S3, ⟨e2, e3⟩, e4⟩ := hw.1 q
    rw [e4, mset_o (by omega)]
    exact ngC_fr (Iv_nGdC h) e3 (by omega) o o18
  · rw [(hw.2 q).2]
end
