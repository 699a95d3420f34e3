/-! ===== the law's own words: comparing longs, the call's number ===== -/
section LCMP
variable {p : Program} {l : Launch} {e : Env} {R : Room} {s : State} {m : MethodId} {args : Array Value} {below : List Frame} {meth : Method} {c : Code} {H : Heap} {locs : List Loc} {cells slots : Nat} {Q : State → Prop} {ls : Array Slot} {rest : List Value} {cc : ByteArray} {pc : Nat}
theorem lv_lcmp9 (hexec : p.tables.exec = Jvm.exec) (hb : c.code = cc) {x y : Int64} (hdg : decode cc pc = .ok (.lcmp, 1))
    (k : W p l e R s m args below meth c H locs cells slots Q (F0 m (pc + 1) ls (.int (if x > y then 1 else if x == y then 0 else -1) :: rest))) : W p l e R s m args below meth c H locs cells slots Q (F0 m pc ls (.long y :: .long x :: rest)) := by
  intro T hT X
  obtain ⟨t, a, b⟩ := k T hT X
  refine ⟨t, ?_, b⟩
  jvm_step X.here [X.here.top, hexec, hb, hdg]
  split
  · rename_i q
    rw [if_pos (show x > y from q)] at a
    exact a
  · rename_i q
    rw [if_neg (show ¬ x > y from q)] at a
    split
    · rename_i q2
      rw [if_pos (beq_iff_eq.mpr q2)] at a
      exact a
    · rename_i q2
      rw [if_neg (fun z => q2 (beq_iff_eq.mp z))] at a
      exact a
end LCMP
section LAWI
variable {C : mX} {own : String} {cc : ByteArray} {nL : Nat} {Ts : List Cond} {rm : Room} {g : mG} {k : Nat × Nat} {pc : Nat} {lv : List (Nat × Value)} {st : List Value} {S : Mem}
/-- equal longs compare as 0 -/
theorem m_lcmp0 (hC : mCtx C own cc nL Ts rm g) {a b : Int} (hd : decode cc pc = .ok (.lcmp, 1)) (hab : a = b) (kk : MW C g nL k (pc + 1) lv (.int (z32 0) :: st) S) : MW C g nL k pc lv (.long (z64 b) :: .long (z64 a) :: st) S := by
  obtain ⟨p, l, e, R, s, m, args, below, meth, c, Q, A⟩ := C
  obtain ⟨hx, hb, hml, hown, hts, hK, hD, hA, hlk, hR⟩ := hC
  intro H locs ls hl hP hS
  subst hab
  refine lv_lcmp9 hx hb hd ?_
  rw [if_neg (fun q => absurd q (by rw [gt_iff_lt, Int64.lt_iff_toInt_lt]; omega)), if_pos (beq_self_eq_true _)]
  exact kk H locs ls hl hP hS
theorem z32_and31 (a : Int) (h : -2147483648 ≤ a ∧ a < 2147483648) : ∃ v : Int, (0 ≤ v ∧ v < 32) ∧ z32 a &&& z32 31 = z32 v := by
  refine ⟨((z32 a &&& z32 31).toInt), ?_, (Int32.ofInt_toInt _).symm⟩
  have h1 : (z32 a &&& z32 31).toBitVec = (z32 a).toBitVec &&& 31#32 := rfl
  have h2 : (z32 a &&& z32 31).toInt = ((z32 a).toBitVec &&& 31#32).toInt := rfl
  rw [h2]
  have h3 : ((z32 a).toBitVec &&& 31#32).toNat ≤ 31 := by
    rw [BitVec.toNat_and]
    exact Nat.and_le_right
  rw [BitVec.toInt_eq_toNat_of_lt (by omega)]
  omega
theorem m_and31 (hC : mCtx C own cc nL Ts rm g) {a : Int} (hd : decode cc pc = .ok (.iand, 1)) (ha : -2147483648 ≤ a ∧ a < 2147483648) (kk : ∀ v : Int, 0 ≤ v ∧ v < 32 → MW C g nL k (pc + 1) lv (.int (z32 v) :: st) S) : MW C g nL k pc lv (.int (z32 31) :: .int (z32 a) :: st) S := by
  obtain ⟨v, hv, e9⟩ := z32_and31 a ha
  obtain ⟨p, l, e, R, s, m, args, below, meth, c, Q, A⟩ := C
  obtain ⟨hx, hb, hml, hown, hts, hK, hD, hA, hlk, hR⟩ := hC
  intro H locs ls hl hP hS
  refine lv_iand hx hb hd ?_
  rw [e9]
  exact kk v hv H locs ls hl hP hS
end LAWI
