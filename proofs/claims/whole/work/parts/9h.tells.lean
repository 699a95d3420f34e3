/-! ===== the law's steps: calls that only tell ===== -/
section
variable {S S1 S2 : Mem} {r v : Int}
theorem fin_bal (h : Iv S) {x : Int} (hw : WPq S (cxBal S x) (bl (S 8) x) (trOne (cxBal S x)) S r S1) (hM : Iv (mg S S1)) (hr : RP S1 (cdBal S1 x) (bl (S1 20) x) (thr S1 0) v S2) : Fnl S S2 r v := by
  have e : trOne (cxBal S x) = cdBal S1 x := cd_bal (S := mg S S1) hM.1
  have e8 : S 8 = S1 20 := hM.1.1
  refine fin_ro h hw hr (trOne_0 e) (trOne_1 e) (fun q => ?_)
  have hx := xnH_9 h (sq_in q).1
  have b := (Iv_okC h).1.bl hx
  exact ⟨by rw [e8], by omega⟩
theorem fin_balA (h : Iv S) {x : Int} (hw : WPq S (cxBal S x) (sI (balF S x) (S 3 1).toNat + col (S 14) x - row (S 14) x) (trOne (cxBal S x)) S r S1) (hM : Iv (mg S S1)) (hr : RP S1 (cdBal S1 x) (bl (S1 20) x) (thr S1 0) v S2) : Fnl S S2 r v := by
  have e : trOne (cxBal S x) = cdBal S1 x := cd_bal (S := mg S S1) hM.1
  have e8 : S 8 = S1 20 := hM.1.1
  refine fin_ro h hw hr (trOne_0 e) (trOne_1 e) (fun q => ?_)
  have hx := xnH_9 h (sq_in q).1
  have b := (Iv_ok h).1.bl hx
  rw [balF_is h hx.1 hx.2, ← e8, h.1.1]
  exact ⟨rfl, by omega⟩
theorem fin_lim (h : Iv S) {x : Int} (hw : WPq S (cxLim S x) (lim S x) (trOne (cxLim S x)) S r S1) (hM : Iv (mg S S1)) (hr : RP S1 (cdLim S1 x) (limR S1 x) (thr S1 0) v S2) : Fnl S S2 r v := by
  have e : trOne (cxLim S x) = cdLim S1 x := cd_lim (S := mg S S1) hM.1
  refine fin_ro h hw hr (trOne_0 e) (trOne_1 e) (fun q => ?_)
  have hx := livR_in (xnS_li h.1 (sq_in q).1) h.2.1
  have b := Iv_lim h x (by omega) (by omega)
  have a : lim S x = limR S1 x := rel_lim (S := mg S S1) hM.1 hM.2.2.2.2.2.1.2.1 ⟨by omega, by omega⟩
  exact ⟨a, by omega⟩
theorem fin_owes (h : Iv S) {x y : Int} (hw : WPq S (cxOwes S x y) (S 8 (ix x y)) (trOne (cxOwes S x y)) S r S1) (hM : Iv (mg S S1)) (hr : RP S1 (cdOwes S1 x y) (S1 20 (ix x y)) (thr S1 0) v S2) : Fnl S S2 r v := by
  have e : trOne (cxOwes S x y) = cdOwes S1 x y := cd_owes (S := mg S S1) hM.1
  have e8 : S 8 = S1 20 := hM.1.1
  refine fin_ro h hw hr (trOne_0 e) (trOne_1 e) (fun q => ?_)
  have q2 := sq_in3 q
  have hx := was_8 h q2.1
  have hy := xnH_9 h q2.2
  have b := (Iv_ent h (i := x) (j := y) (by omega) hy).1
  rw [← h.1.1] at b
  exact ⟨by rw [e8], by omega⟩
theorem fin_froz (h : Iv S) {x y : Int} (hw : WPq S (cxTwo S x y) (S 10 (ix x y)) (trOne (cxTwo S x y)) S r S1) (hM : Iv (mg S S1)) (hr : RP S1 (cdTwo S1 x y) (S1 21 (ix x y)) (thr S1 0) v S2) : Fnl S S2 r v := by
  have e : trOne (cxTwo S x y) = cdTwo S1 x y := cd_two (S := mg S S1) hM.1
  have e8 : S 10 = S1 21 := hM.1.2.1
  refine fin_ro h hw hr (trOne_0 e) (trOne_1 e) (fun q => ?_)
  have q2 := sq_in3 q
  have hx := was_8 h q2.1
  have hy := was_8 h q2.2
  have b := (Iv_ent h (i := x) (j := y) (by omega) (by omega)).2.1
  rw [← h.1.2.1] at b
  exact ⟨by rw [e8], by omega⟩
theorem fin_guad (h : Iv S) {x y : Int} (hw : WPq S (cxTwo S x y) (S 12 (ix x y)) (trOne (cxTwo S x y)) S r S1) (hM : Iv (mg S S1)) (hr : RP S1 (cdTwo S1 x y) (S1 22 (ix x y)) (thr S1 0) v S2) : Fnl S S2 r v := by
  have e : trOne (cxTwo S x y) = cdTwo S1 x y := cd_two (S := mg S S1) hM.1
  have e8 : S 12 = S1 22 := hM.1.2.2.1
  refine fin_ro h hw hr (trOne_0 e) (trOne_1 e) (fun q => ?_)
  have q2 := sq_in3 q
  have hx := was_8 h q2.1
  have hy := was_8 h q2.2
  have b := (Iv_ent h (i := x) (j := y) (by omega) (by omega)).2.2
  rw [← h.1.2.2.1] at b
  exact ⟨by rw [e8], by omega⟩
theorem fin_ofT (h : Iv S) {t w : Int} (hw : WPq S (cxOfT S t w) (trd S t w) (tr12 (cxOfT S t w)) S r S1) (hM : Iv (mg S S1)) (hr : RP S1 (cdOfT S1 t w) (ofT S1 t w) (thr S1 0) v S2) : Fnl S S2 r v := by
  have e : tr12 (cxOfT S t w) = cdOfT S1 t w ∨ cxOfT S t w = 0 ∧ cdOfT S1 t w = 0 := cd_ofT (S := mg S S1) hM.1
  have hz : cxOfT S t w = 0 → trR S1 t = true ∧ 0 ≤ w ∧ w ≤ 5 := fun q => by
    have q2 := sq_in3 q
    exact ⟨xnT_tr (S := mg S S1) hM.1 q2.1, xnR_in q2.2⟩
  refine fin_ro h hw hr (fun q => ?_) (tr12_1 e) (fun q => ?_)
  · obtain ⟨a, b⟩ := hz q
    unfold cdOfT
    rw [a, if_neg (by decide), decide_eq_true b]
    rfl
  · obtain ⟨a, b⟩ := hz q
    have c := trT_in (S := mg S S1) hM.1 a
    have d := (Iv_rg h).2.2.2.2.2 t w
    refine ⟨?_, by omega⟩
    obtain ⟨a0, a1, a2, a3, a4, a5⟩ := hM.1.2.2.2.2.2.2.2.2.1 t c.1 c.2
    have a0 : trd S t 0 = S1 28 t := a0
    have a1 : trd S t 1 = S1 24 t := a1
    have a2 : trd S t 2 = S1 25 t := a2
    have a3 : trd S t 3 = S1 26 t := a3
    have a4 : trd S t 4 = S1 27 t := a4
    have a5 : trd S t 5 = S1 29 t := a5
    unfold ofT
    by_cases w0 : w = 0
    · rw [if_pos w0, w0, a0]
    · by_cases w1 : w = 1
      · rw [if_neg w0, if_pos w1, w1, a1]
      · by_cases w2 : w = 2
        · rw [if_neg w0, if_neg w1, if_pos w2, w2, a2]
        · by_cases w3 : w = 3
          · rw [if_neg w0, if_neg w1, if_neg w2, if_pos w3, w3, a3]
          · by_cases w4 : w = 4
            · rw [if_neg w0, if_neg w1, if_neg w2, if_neg w3, if_pos w4, w4, a4]
            · rw [if_neg w0, if_neg w1, if_neg w2, if_neg w3, if_neg w4, show w = 5 by omega, a5]
theorem fin_goods (h : Iv S) {x : Int} (hw : WPq S (cxOne S x) (tg 8 2 (S 2) x 1) (trOne (cxOne S x)) S r S1) (hM : Iv (mg S S1)) (hr : RP S1 (cdOne S1 x) (S1 23 x) (thr S1 0) v S2) : Fnl S S2 r v := by
  have e : trOne (cxOne S x) = cdOne S1 x := cd_one (S := mg S S1) hM.1
  refine fin_ro h hw hr (trOne_0 e) (trOne_1 e) (fun q => ?_)
  have q2 := (sq_in q).1
  have hx := was_8 h q2
  have hj : x < S 0 6 := by
    have a := xnW_in q2
    unfold was at a
    exact (of_decide_eq_true a).2
  have a : tg 8 2 (S 2) x 1 = S1 23 x := (hM.1.2.2.2.2.2.2.2.2.2.2 x hx.1 hj).2
  have b : (S1 19 x = 1 ∨ S1 18 1 ≤ x → S1 23 x = 0) ∧ -2000000 ≤ S1 23 x ∧ S1 23 x ≤ 2000000 := hM.2.2.2.2.2.2.2.2.1 x hx.1 hx.2
  exact ⟨a, by omega⟩
theorem fin_idle (h : Iv S) {x : Int} (hw : WPq S (cxLim S x) (bI (idF S (S 8) x)) (trOne (cxLim S x)) S r S1) (hM : Iv (mg S S1)) (hr : RP S1 (cdLim S1 x) (bI (lazR S1 x)) (thr S1 0) v S2) : Fnl S S2 r v := by
  have e : trOne (cxLim S x) = cdLim S1 x := cd_lim (S := mg S S1) hM.1
  have e8 : S 8 = S1 20 := hM.1.1
  refine fin_ro h hw hr (trOne_0 e) (trOne_1 e) (fun q => ?_)
  have a : idF S (S 8) x = lazF S1 (S 8) x := rel_laz (S := mg S S1) hM.1 (S 8) x
  have b := bI_32 (idF S (S 8) x)
  refine ⟨?_, b⟩
  rw [a, e8]
  rfl
theorem fin_ring (h : Iv S) {x w : Int} (hw : WPq S (cxRing S x w) (tg 57 7 (S 17) x w) (tr12 (cxRing S x w)) S r S1) (hM : Iv (mg S S1)) (hr : RP S1 (cdRing S1 x w) (S1 30 (rix x w)) (thr S1 0) v S2) : Fnl S S2 r v := by
  have e : tr12 (cxRing S x w) = cdRing S1 x w ∨ cxRing S x w = 0 ∧ cdRing S1 x w = 0 := cd_ring (S := mg S S1) hM.1
  have e15 : S 15 1 = S1 18 16 := hM.1.2.2.2.2.2.2.2.1
  have hz : cxRing S x w = 0 → (0 ≤ x ∧ x < S 15 1) ∧ 0 ≤ w ∧ w ≤ 6 := fun q => by
    have q2 := sq_in3 q
    exact ⟨ite3 (by decide) q2.1, xnR_in q2.2⟩
  refine fin_ro h hw hr (fun q => ?_) (tr12_1 e) (fun q => ?_)
  · obtain ⟨a, b⟩ := hz q
    unfold cdRing
    rw [← e15, decide_eq_true a, if_neg (by decide), decide_eq_true b]
    rfl
  · obtain ⟨a, b⟩ := hz q
    have c : tg 57 7 (S 17) x w = S1 30 (rix x w) := hM.1.2.2.2.2.2.2.2.2.2.1 x w a.1 a.2 b.1 (by omega)
    have d : -1 ≤ S1 30 (rix x w) ∧ S1 30 (rix x w) ≤ 200000 := hM.2.2.2.2.2.2.2.2.2.2.2.2.2 x w a.1 (by show x < S1 18 16; omega) b.1 (by omega)
    exact ⟨c, by omega⟩
end
