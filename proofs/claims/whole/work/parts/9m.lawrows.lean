/-! ===== the law: its script, its calls, the ranges of what it is told ===== -/
def sCtx (C : mX) (b L : Nat) (xs : Nat → Int32) : Prop := match C with
  | (p, l, e, R, s, m, args, below, meth, c, Q, A) => va_X b L xs s s.heap ∧ b < s.heap.size ∧ ¬ A b
def scv (xs : Nat → Int32) (i : Int) : Int := (xs i.toNat).toInt
theorem scv_r (xs : Nat → Int32) (i : Int) : -2147483648 ≤ scv xs i ∧ scv xs i < 2147483648 := z_rng _
section LAWR
variable {C : mX} {own : String} {cc : ByteArray} {nL : Nat} {Ts : List Cond} {rm : Room} {g : mG} {k : Nat × Nat} {pc : Nat} {lv : List (Nat × Value)} {st : List Value} {S : Mem} {b L : Nat} {xs : Nat → Int32}
theorem m_sld (hC : mCtx C own cc nL Ts rm g) (hs : sCtx C b L xs) {i : Int} (hd : decode cc pc = .ok (.iaload, 1)) (h0 : 0 ≤ i) (h1 : i < (L : Int)) (hL : L < 2147483648) (kk : MW C g nL k (pc + 1) lv (.int (z32 (scv xs i)) :: st) S) : MW C g nL k pc lv (.int (z32 i) :: .ref b :: st) S := by
  obtain ⟨p, l, e, R, s, m, args, below, meth, c, Q, A⟩ := C
  obtain ⟨hx, hb, hml, hown, hts, hK, hD, hA, hlk, hR⟩ := hC
  obtain ⟨hX, hbl, hbA⟩ := hs
  intro H locs ls hl hP hS
  refine va_sld hx hb hX hbl hbA hS (z32_in h0 h1 hL) hd ?_
  rw [z32_cl h0 (by omega)]
  have kk := kk H locs ls hl hP hS
  rw [show z32 (scv xs i) = xs i.toNat from Int32.ofInt_toInt _] at kk
  exact kk
theorem m_slen (hC : mCtx C own cc nL Ts rm g) (hs : sCtx C b L xs) (hd : decode cc pc = .ok (.arraylength, 1)) (kk : MW C g nL k (pc + 1) lv (.int (z32 (L : Int)) :: st) S) : MW C g nL k pc lv (.ref b :: st) S := by
  obtain ⟨p, l, e, R, s, m, args, below, meth, c, Q, A⟩ := C
  obtain ⟨hx, hb, hml, hown, hts, hK, hD, hA, hlk, hR⟩ := hC
  obtain ⟨hX, hbl, hbA⟩ := hs
  intro H locs ls hl hP hS
  refine va_slen hx hb hX hbl hbA hS hd ?_
  have kk := kk H locs ls hl hP hS
  rw [show z32 (L : Int) = Int32.ofNat L from Int32.ofInt_eq_ofNat] at kk
  exact kk
theorem m_callLi {y : MethodName} {ws ws' : List Cond} {rm' : Room} {index maxL n : Nat} {As rest : List Value} {P : Int → Mem → Prop} {bytes : ByteArray} {ret : Option FieldType} {hh : List (Nat × Nat × Nat × Nat)}
    (hC : mCtx C own cc nL Ts rm g) (hX : lCtx C) (hM : ∀ l, DoesX l y ws rm' g As S (PIx P) (fun _ _ => False)) (hG : GoodIn Ts (va_wsS own index y ws)) (hw : ws = Cond.codeWith y bytes maxL ret hh :: ws') (hd : decode cc pc = .ok (.invokestatic index, 3))
    (hy : y.cls = own ∧ y.cls ≠ "java/lang/invoke/MethodHandle" ∧ y.cls ≠ "java/lang/invoke/VarHandle" ∧ (parseMethodDescriptor y.desc).map (fun d => d.parameters.length) = some n) (hR : rm'.frames + 1 ≤ rm.frames ∧ 8 + (maxL + 11) + rm'.locals ≤ rm.locals) (hn : As.length = n) (hst : (rest.map fun v => v.category).sum ≤ 8) (h5 : rm'.cells ≤ 5 ∧ rm'.slots ≤ 30) (hk : k.1 + 5 ≤ rm.cells ∧ k.2 + 30 ≤ rm.slots) (hstk : st = As.reverse ++ rest)
    (kk : ∀ r S' k', P r S' → k'.1 ≤ k.1 + 5 ∧ k'.2 ≤ k.2 + 30 → MW C g nL k' (pc + 3) lv (.int (z32 r) :: rest) S') : MW C g nL k pc lv st S := by
  refine m_callSW hC hX hM hG hw hd hy hR hn hst ⟨by omega, by omega⟩ hstk (fun r S' hp => ?_)
  obtain ⟨v, rfl, hp⟩ := hp
  exact kk v S' _ hp ⟨by show k.1 + rm'.cells ≤ _; omega, by show k.2 + rm'.slots ≤ _; omega⟩
end LAWR
section HV
variable {S : Mem}
theorem hv_join (h : Iv S) (_ : cxJoin S = 0) : -2147483648 ≤ S 0 6 ∧ S 0 6 < 2147483648 := by
  have := (Iv_rg h).1
  omega
theorem hv_fee (h : Iv S) {x : Int} (_ : cxFee S x = 0) : -2147483648 ≤ S 0 8 ∧ S 0 8 < 2147483648 := by
  have := (Iv_rg h).2.2.1
  omega
theorem hv_trade (h : Iv S) {b s a : Int} (_ : cxTrade S b s a = 0) : -2147483648 ≤ S 3 1 ∧ S 3 1 < 2147483648 := by
  have := (Iv_rg h).2.2.2.1
  omega
theorem hv_bal (h : Iv S) {x : Int} (q : cxBal S x = 0) : -2147483648 ≤ bl (S 8) x ∧ bl (S 8) x < 2147483648 := by
  have := (Iv_okC h).1.bl (xnH_9 h (sq_in q).1)
  omega
theorem hv_balA (h : Iv S) {x : Int} (q : cxBal S x = 0) : -2147483648 ≤ sI (balF S x) (S 3 1).toNat + col (S 14) x - row (S 14) x ∧ sI (balF S x) (S 3 1).toNat + col (S 14) x - row (S 14) x < 2147483648 := by
  have hx := xnH_9 h (sq_in q).1
  have := (Iv_ok h).1.bl hx
  rw [balF_is h hx.1 hx.2]
  omega
theorem hv_lim (h : Iv S) {x : Int} (q : cxLim S x = 0) : -2147483648 ≤ lim S x ∧ lim S x < 2147483648 := by
  have hx := livR_in (xnS_li h.1 (sq_in q).1) h.2.1
  have b := Iv_lim h x (by omega) (by omega)
  omega
theorem hv_owes (h : Iv S) {x y : Int} (q : cxOwes S x y = 0) : -2147483648 ≤ S 8 (ix x y) ∧ S 8 (ix x y) < 2147483648 := by
  have q2 := sq_in3 q
  have hx := was_8 h q2.1
  have hy := xnH_9 h q2.2
  have b := (Iv_ent h (i := x) (j := y) (by omega) hy).1
  rw [← h.1.1] at b
  omega
theorem hv_froz (h : Iv S) {x y : Int} (q : cxTwo S x y = 0) : -2147483648 ≤ S 10 (ix x y) ∧ S 10 (ix x y) < 2147483648 := by
  have q2 := sq_in3 q
  have hx := was_8 h q2.1
  have hy := was_8 h q2.2
  have b := (Iv_ent h (i := x) (j := y) (by omega) (by omega)).2.1
  rw [← h.1.2.1] at b
  omega
theorem hv_guad (h : Iv S) {x y : Int} (q : cxTwo S x y = 0) : -2147483648 ≤ S 12 (ix x y) ∧ S 12 (ix x y) < 2147483648 := by
  have q2 := sq_in3 q
  have hx := was_8 h q2.1
  have hy := was_8 h q2.2
  have b := (Iv_ent h (i := x) (j := y) (by omega) (by omega)).2.2
  rw [← h.1.2.2.1] at b
  omega
theorem hv_ofT (h : Iv S) {t w : Int} (_ : cxOfT S t w = 0) : -2147483648 ≤ trd S t w ∧ trd S t w < 2147483648 := by
  have := (Iv_rg h).2.2.2.2.2 t w
  omega
theorem hv_goods (h : Iv S) {x : Int} (q : cxOne S x = 0) : -2147483648 ≤ tg 8 2 (S 2) x 1 ∧ tg 8 2 (S 2) x 1 < 2147483648 := by
  have q2 := (sq_in q).1
  have hx := was_8 h q2
  have hj : x < S 0 6 := by
    have a := xnW_in q2
    unfold was at a
    exact (of_decide_eq_true a).2
  have a := (h.1.2.2.2.2.2.2.2.2.2.2 x hx.1 hj).2
  have b := h.2.2.2.2.2.2.2.2.1 x hx.1 hx.2
  omega
theorem hv_ring (h : Iv S) {x w : Int} (q : cxRing S x w = 0) : -2147483648 ≤ tg 57 7 (S 17) x w ∧ tg 57 7 (S 17) x w < 2147483648 := by
  have q2 := sq_in3 q
  have a : 0 ≤ x ∧ x < S 15 1 := ite3 (by decide) q2.1
  have b := xnR_in q2.2
  have e15 := h.1.2.2.2.2.2.2.2.1
  have c := h.1.2.2.2.2.2.2.2.2.2.1 x w a.1 a.2 b.1 (by omega)
  have d := h.2.2.2.2.2.2.2.2.2.2.2.2.2 x w a.1 (by omega) b.1 (by omega)
  omega
theorem hv_disp (h : Iv S) {t : Int} (q : cxDisp S t = 0) : -2147483648 ≤ ptDC S t ∧ ptDC S t < 2147483648 := by
  have c := xnT_in (sq_in3 q).1
  obtain ⟨a0, a1, a2, a3, -⟩ := h.1.2.2.2.2.2.2.2.2.1 t c.1 c.2
  have b := h.2.1.2.2.2.2.2.2 t
  have d := Iv_ent h (i := S 24 t) (j := S 25 t) (by omega) (by omega)
  have m := mn_le (S 26 t) (S 20 (ix (S 24 t) (S 25 t)) - S 21 (ix (S 24 t) (S 25 t)))
  unfold ptDC
  rw [a1, a2, a3, h.1.1, h.1.2.1]
  omega
theorem hv_sett (h : Iv S) {t z : Int} (q : cxSett S t = 0) : -2147483648 ≤ moSC S t z ∧ moSC S t z < 2147483648 := by
  have c := xnT_in (sq_in3 q).1
  have g2 := h.2.1.2.1
  have e7 := h.1.2.2.2.2.2.2.1
  obtain ⟨a0, a1, a2, a3, a4, a5⟩ := h.1.2.2.2.2.2.2.2.2.1 t c.1 c.2
  have b := h.2.1.2.2.2.2.2.2 t
  unfold moSC
  rw [st1C_5 ⟨c.1, by omega⟩, if_neg (c := t = t ∧ (3 : Int) = 5) (by omega), if_neg (c := t = t ∧ (3 : Int) = 0) (by omega), a3, a5]
  split <;> omega
theorem hv_guar (h : Iv S) {f s a : Int} (q : cxGuar S f s a = 0) : -2147483648 ≤ S 12 (ix f s) + a ∧ S 12 (ix f s) + a < 2147483648 := by
  obtain ⟨a1, a2, a3, -⟩ := xnG_in (sq_in q).1
  rw [rel_liv h.1] at a1 a2
  have l1 := livR_in a1 h.2.1
  have l2 := livR_in a2 h.2.1
  have b := (Iv_ent h (i := f) (j := s) (by omega) (by omega)).2.2
  rw [← h.1.2.2.1] at b
  omega
theorem hv_revo (h : Iv S) {f s a : Int} (q : cxRevo S f s a = 0) : -2147483648 ≤ S 12 (ix f s) + (-a) ∧ S 12 (ix f s) + (-a) < 2147483648 := by
  obtain ⟨a1, a2, a3, -⟩ := xnG_in (sq_in q).1
  rw [rel_liv h.1] at a1 a2
  have l1 := livR_in a1 h.2.1
  have l2 := livR_in a2 h.2.1
  have b := (Iv_ent h (i := f) (j := s) (by omega) (by omega)).2.2
  rw [← h.1.2.2.1] at b
  omega
theorem hv_15 (h : Iv S) : 0 ≤ S 15 1 ∧ S 15 1 ≤ 56 := by
  have := h.2.1.2.2.2.2.1
  rw [h.1.2.2.2.2.2.2.2.1]
  exact this
theorem idle_01 {S1 S2 : Mem} {x r v : Int} (hr : RP S1 (cdLim S1 x) (bI (lazR S1 x)) (thr S1 0) v S2) (h2 : S2 18 0 = r) (h0 : r = 0) : v = 0 ∨ v = 1 := by
  by_cases q : cdLim S1 x = 0
  · obtain ⟨e1, -⟩ := hr.2 q
    rw [e1]
    exact bI_rng _
  · have e := hr.1 q
    rw [e, (thr_facts S1 _).2.2] at h2
    exact absurd (h2.trans h0) q
end HV
