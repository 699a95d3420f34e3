/-! ===== the law's steps: what a call of both leaves ===== -/
def Fnl (S S2 : Mem) (r v : Int) : Prop := Iv S2 ∧ S2 18 0 = r ∧ (0 ≤ r ∧ r ≤ 3) ∧ (r = 0 → S2 32 0 = v ∧ (-2147483648 ≤ v ∧ v < 2147483648)) ∧ S2 18 14 ≤ S 18 14 + 20
def WPq (S : Mem) (cd val trc : Int) (st : Mem) (r : Int) (S1 : Mem) : Prop := (cd = 0 → r = 0 ∧ S1 = mset st 32 0 val) ∧ (cd ≠ 0 → r = trc ∧ S1 = S)
theorem up_gen {S S1 stC : Mem} {cd val trc r : Int} (hst : ∀ o : Nat, 18 ≤ o → stC o = S o) (hw : WPq S cd val trc stC r S1) : ∀ o : Nat, 18 ≤ o → o < 32 → S1 o = S o := by
  intro o o18 o32
  by_cases q : cd = 0
  · rw [(hw.1 q).2, mset_o (by omega)]
    exact hst o o18
  · rw [(hw.2 q).2]
theorem up_M {S S1 : Mem} (h : Iv S) (hu : ∀ o : Nat, 18 ≤ o → o < 32 → S1 o = S o) : Iv (mg S S1) := by
  refine Iv_cong (fun o o32 o18 => ?_) (fun i i0 => ?_) h
  · by_cases q : o < 18
    · rw [mgC _ _ q]
    · rw [mgR _ _ q]; exact hu o (by omega) o32
  · show S1 18 i = S 18 i
    rw [hu 18 (by decide) (by decide)]
theorem Iv_thr {S : Mem} (k : Int) (h : Iv S) : Iv (thr S k) := Iv_cong (fun o _ o18 => (thr_facts S k).1 o o18) (fun i i0 => (thr_facts S k).2.1 i i0) h
theorem Iv_32 {S : Mem} (v : Int) (h : Iv S) : Iv (mset S 32 0 v) := Iv_cong (fun o o32 _ => mset_o (by omega)) (fun i _ => rfl) h
theorem fin_gen {S S1 S2 stC stR : Mem} {cdC valC cdR valR v r trc : Int} (h : Iv S) (hw : WPq S cdC valC trc stC r S1) (hr : RP S1 cdR valR stR v S2) (h0 : cdC = 0 → cdR = 0) (h1 : cdC ≠ 0 → trc = cdR ∧ 1 ≤ cdR ∧ cdR ≤ 3) (hv : cdC = 0 → valC = valR ∧ (-2147483648 ≤ valC ∧ valC < 2147483648)) (hok : cdC = 0 → S1 = mset stC 32 0 valC → Iv stR ∧ stR 18 0 = 0 ∧ stR 32 = S1 32 ∧ stR 18 14 ≤ S 18 14 + 20) : Fnl S S2 r v := by
  by_cases q : cdC = 0
  · obtain ⟨e1, e2⟩ := hw.1 q
    obtain ⟨e3, e4⟩ := hr.2 (h0 q)
    obtain ⟨k1, k2, k3, k4⟩ := hok q e2
    obtain ⟨v1, v2⟩ := hv q
    rw [e4]
    refine ⟨k1, by omega, by omega, fun _ => ⟨?_, by omega⟩, k4⟩
    rw [k3, e2, mset_hit]; omega
  · obtain ⟨e1, e2⟩ := hw.2 q
    obtain ⟨f1, f2, f3⟩ := h1 q
    have e3 := hr.1 (by omega)
    rw [e3, e2]
    refine ⟨Iv_thr _ h, ?_, by omega, fun z => by omega, ?_⟩
    · rw [(thr_facts S cdR).2.2]; omega
    · rw [(thr_facts S cdR).2.1 14 (by decide)]; omega
/-- calls that only tell -/
theorem fin_ro {S S1 S2 : Mem} {cdC valC cdR valR v r trc : Int} (h : Iv S) (hw : WPq S cdC valC trc S r S1) (hr : RP S1 cdR valR (thr S1 0) v S2) (h0 : cdC = 0 → cdR = 0) (h1 : cdC ≠ 0 → trc = cdR ∧ 1 ≤ cdR ∧ cdR ≤ 3) (hv : cdC = 0 → valC = valR ∧ (-2147483648 ≤ valC ∧ valC < 2147483648)) : Fnl S S2 r v := by
  refine fin_gen h hw hr h0 h1 hv (fun _ e => ?_)
  rw [e]
  refine ⟨Iv_thr _ (Iv_32 _ h), mset_hit _ _ _ _, rfl, ?_⟩
  rw [(thr_facts _ 0).2.1 14 (by decide)]
  show S 18 14 ≤ _
  omega
theorem trOne_0 {c k : Int} (h : trOne c = k) (q : c = 0) : k = 0 := by rw [← h, q]; rfl
theorem trOne_1 {c k : Int} (h : trOne c = k) (q : c ≠ 0) : trOne c = k ∧ 1 ≤ k ∧ k ≤ 3 := by
  have : trOne c = 1 := if_neg q
  omega
theorem tr12_1 {c k : Int} (h : tr12 c = k ∨ c = 0 ∧ k = 0) (q : c ≠ 0) : tr12 c = k ∧ 1 ≤ k ∧ k ≤ 3 := by
  rcases h with h | h
  · refine ⟨h, ?_⟩
    rw [← h]
    unfold tr12
    split <;> omega
  · exact absurd h.1 q
theorem tr123_1 {c k : Int} (h : c = k) (hk : k = 0 ∨ 1 ≤ k ∧ k ≤ 3) (q : c ≠ 0) : tr123 c = k ∧ 1 ≤ k ∧ k ≤ 3 := by
  unfold tr123
  omega
theorem xnT_tr {S : Mem} (h : Rel S) {t : Int} (q : xnT S t = 0) : trR S t = true := by
  rw [rel_xnT h] at q
  by_cases z : trR S t = true
  · exact z
  · rw [if_neg z] at q; exact absurd q (by decide)
theorem xnS_li {S : Mem} (h : Rel S) {t : Int} (q : xnS S t = 0) : livR S t = true := by
  rw [rel_xnS h] at q
  by_cases z : livR S t = true
  · exact z
  · rw [if_neg z] at q; exact absurd q (by decide)
theorem xnW_wa {S : Mem} (h : Rel S) {t : Int} (q : xnW S t = 0) : wasR S t = true := by
  rw [rel_xnW h] at q
  by_cases z : wasR S t = true
  · exact z
  · rw [if_neg z] at q; exact absurd q (by decide)
theorem sq_in3 {a b : Int} (h : sq a (sq b 0) = 0) : a = 0 ∧ b = 0 := ⟨(sq_in h).1, (sq_in (sq_in h).2).1⟩
theorem ite3 {P : Prop} {d : Decidable P} {k : Int} (hk : k ≠ 0) (h : @ite _ P d 0 k = 0) : P := by
  by_cases q : P
  · exact q
  · rw [if_neg q] at h; exact absurd h hk
theorem cd3_trade {S : Mem} {b s a : Int} : cdTrade S b s a = 0 ∨ 1 ≤ cdTrade S b s a ∧ cdTrade S b s a ≤ 3 := by
  unfold cdTrade
  repeat' split
  all_goals omega
theorem cd3_guar {S : Mem} {b s a : Int} : cdGuar S b s a = 0 ∨ 1 ≤ cdGuar S b s a ∧ cdGuar S b s a ≤ 3 := by
  unfold cdGuar
  repeat' split
  all_goals omega
theorem cd3_revo {S : Mem} {b s a : Int} : cdRevo S b s a = 0 ∨ 1 ≤ cdRevo S b s a ∧ cdRevo S b s a ≤ 3 := by
  unfold cdRevo
  repeat' split
  all_goals omega
/-! ranges -/
theorem Iv_ent {S : Mem} (h : Iv S) {i j : Int} (hi : 0 ≤ i ∧ i < 9) (hj : 0 ≤ j ∧ j < 9) : (0 ≤ S 20 (ix i j) ∧ S 20 (ix i j) ≤ 200000) ∧ (0 ≤ S 21 (ix i j) ∧ S 21 (ix i j) ≤ 200000) ∧ 0 ≤ S 22 (ix i j) ∧ S 22 (ix i j) ≤ 1000 := by
  have a := (Iv_ok h).1.ent hi hj
  have b := h.2.2.2.1.1 i j hi.1 hi.2 hj.1 hj.2
  have c := h.2.2.2.2.2.1.2.2.2 i j hi.1 hi.2 hj.1 hj.2
  omega
theorem was_8 {S : Mem} (h : Iv S) {s : Int} (q : xnW S s = 0) : 0 ≤ s ∧ s < 8 := wasR_in (xnW_wa h.1 q) h.2.1
theorem xnH_9 {S : Mem} (h : Iv S) {s : Int} (q : xnH S s = 0) : 0 ≤ s ∧ s < 9 := xnH_in q (Iv_rg h)
/-- balances found anew -/
theorem balF_is {S : Mem} (h : Iv S) {x : Int} (x0 : 0 ≤ x) (x9 : x < 9) : sI (balF S x) (S 3 1).toNat + col (S 14) x - row (S 14) x = bl (S 20) x := by
  have hb := h.2.2.2.2.2.2.2.2.2.1 x x0 x9
  have e : sI (balF S x) (S 3 1).toNat = blT (S 28) (S 24) (S 25) (S 26) (S 18 7) x := by
    unfold blT
    rw [h.1.2.2.2.2.2.2.1]
    refine sI_cong (fun t t0 t1 => ?_)
    have e7 := h.1.2.2.2.2.2.2.1
    obtain ⟨a0, a1, a2, a3, -⟩ := h.1.2.2.2.2.2.2.2.2.1 t t0 (by omega)
    unfold balF
    rw [a0, a1, a2, a3]
  rw [e, hb]
  unfold bl
  omega
