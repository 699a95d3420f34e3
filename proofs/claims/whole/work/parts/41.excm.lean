/-! ===== codes of exceptions: 1 no such thing, 2 a bad number, 3 not now ===== -/
def sq (a b : Int) : Int := if a = 0 then b else a
theorem sq0 {a b : Int} (h : a = 0) : sq a b = b := if_pos h
def XV (cd : Int) (S1 : Mem) : Option Value → Mem → Prop := fun r S' => cd = 0 ∧ r = none ∧ S' = S1
def XI (cd val : Int) (S1 : Mem) : Option Value → Mem → Prop := fun r S' => cd = 0 ∧ r = some (.int (z32 val)) ∧ S' = S1
def XIx (cd : Int) (P : Int → Mem → Prop) : Option Value → Mem → Prop := fun r S' => cd = 0 ∧ ∃ v, r = some (.int (z32 v)) ∧ P v S'
def XE (cd : Int) (S : Mem) : String → Mem → Prop := fun E S' => S' = S ∧ ((cd = 1 ∧ E = xIOB) ∨ (cd = 2 ∧ E = xIAE) ∨ (cd = 3 ∧ E = xISE))
theorem XE_l {a b : Int} {S : Mem} {E : String} {S' : Mem} (h : XE a S E S') : XE (sq a b) S E S' := by
  have ha : sq a b = a := if_neg (by rcases h.2 with q | q | q <;> omega)
  rw [ha]
  exact h
theorem XE1 {cd : Int} {S : Mem} (h : cd = 1) : XE cd S xIOB S := ⟨rfl, Or.inl ⟨h, rfl⟩⟩
theorem XE2 {cd : Int} {S : Mem} (h : cd = 2) : XE cd S xIAE S := ⟨rfl, Or.inr (Or.inl ⟨h, rfl⟩)⟩
theorem XE3 {cd : Int} {S : Mem} (h : cd = 3) : XE cd S xISE S := ⟨rfl, Or.inr (Or.inr ⟨h, rfl⟩)⟩
theorem XI_mk {cd a val : Int} {S' S1 : Mem} (h : cd = 0) (hv : a = val) (hs : S' = S1) : XI cd val S1 (some (.int (z32 a))) S' := ⟨h, by rw [hv], hs⟩
theorem XIx_mk {cd a : Int} {S' : Mem} {P : Int → Mem → Prop} (h : cd = 0) (hp : P a S') : XIx cd P (some (.int (z32 a))) S' := ⟨h, a, rfl, hp⟩
def xnS (S : Mem) (s : Int) : Int := if liv S s = true then 0 else 1
def xnW (S : Mem) (s : Int) : Int := if was S s = true then 0 else 1
def xnH (S : Mem) (s : Int) : Int := if s = 8 then 0 else xnW S s
def xnT (S : Mem) (t : Int) : Int := if decide (0 ≤ t ∧ t < S 3 1) = true then 0 else 1
def xnR (v a b : Int) : Int := if a ≤ v ∧ v ≤ b then 0 else 2
def xnU (a b : Int) : Int := if a ≠ b then 0 else 2
def xnB (S : Mem) (s m : Int) : Int := if 0 ≤ bl (S 8) s + lim S s - m then 0 else 3
def xnG (S : Mem) (f s a : Int) : Int := sq (xnS S f) (sq (xnS S s) (sq (xnR a 1 500) (sq (xnU f s) 0)))
theorem xnS_in {S : Mem} {s : Int} (h : xnS S s = 0) : liv S s = true := by
  unfold xnS at h
  by_cases q : liv S s = true
  · exact q
  · rw [if_neg q] at h; exact absurd h (by decide)
theorem xnW_in {S : Mem} {s : Int} (h : xnW S s = 0) : was S s = true := by
  unfold xnW at h
  by_cases q : was S s = true
  · exact q
  · rw [if_neg q] at h; exact absurd h (by decide)
theorem xnT_in {S : Mem} {t : Int} (h : xnT S t = 0) : 0 ≤ t ∧ t < S 3 1 := by
  unfold xnT at h
  by_cases q : decide (0 ≤ t ∧ t < S 3 1) = true
  · exact of_decide_eq_true q
  · rw [if_neg q] at h; exact absurd h (by decide)
theorem xnR_in {v a b : Int} (h : xnR v a b = 0) : a ≤ v ∧ v ≤ b := by
  unfold xnR at h
  by_cases q : a ≤ v ∧ v ≤ b
  · exact q
  · rw [if_neg q] at h; exact absurd h (by decide)
theorem xnU_in {a b : Int} (h : xnU a b = 0) : a ≠ b := by
  unfold xnU at h
  by_cases q : a ≠ b
  · exact q
  · rw [if_neg q] at h; exact absurd h (by decide)
theorem sq_in {a b : Int} (h : sq a b = 0) : a = 0 ∧ b = 0 := by
  unfold sq at h
  by_cases q : a = 0
  · rw [if_pos q] at h; exact ⟨q, h⟩
  · rw [if_neg q] at h; exact absurd h q
section XCALLS
variable {C : mX} {own : String} {cc : ByteArray} {nL : Nat} {Ts : List Cond} {rm : Room} {g : mG} {k : Nat × Nat} {pc : Nat} {lv : List (Nat × Value)} {st : List Value} {S S0 : Mem} {Post : Option Value → Mem → Prop} {PX : String → Mem → Prop}
theorem x_callVv {y : MethodName} {ws ws' : List Cond} {fr ce sl lo index maxL n o ci N : Nat} {As rest : List Value} {cd : Int} {S1 : Mem} {bytes : ByteArray} {ret ret1 : Option FieldType} {CN : String} {T : u_T} {fs : List mF}
    (hC : mCtx C own cc nL Ts rm g) (hX : xCtx C) (hR0 : xRet C g S0 ret Post PX rm) (hM : ∀ l, DoesX l y ws ({ frames := fr, cells := ce, slots := sl, locals := lo } : Room) g (.ref (g.2.2 o) :: As) S (XV cd S1) (XE cd S)) (hG : GoodIn Ts (wsV own index CN y ws)) (hw : ws = Cond.code y bytes maxL ret1 :: ws') (hd : decode cc pc = .ok (.invokevirtual index, 3))
    (ho : gds[o]? = some (.inl (ci, fs))) (hc : vwCl[ci]? = some (CN, T, N))
    (hy : y.cls = CN ∧ y.cls ≠ "java/lang/invoke/MethodHandle" ∧ y.cls ≠ "java/lang/invoke/VarHandle" ∧ (parseMethodDescriptor y.desc).map (fun d => d.parameters.length) = some n) (hR : fr + 1 ≤ rm.frames ∧ 8 + (maxL + 11) + lo ≤ rm.locals) (hn : As.length = n) (hst : (rest.map fun v => v.category).sum ≤ 8) (hk : k.1 + ce ≤ rm.cells ∧ k.2 + sl ≤ rm.slots) (hstk : st = As.reverse ++ .ref (g.2.2 o) :: rest) (kx : ∀ E S', XE cd S E S' → PX E S')
    (kk : cd = 0 → MW C g nL (k.1 + ce, k.2 + sl) (pc + 3) lv rest S1) : MW C g nL k pc lv st S := by
  refine x_callV hC hX hR0 hM hG hw hd ho hc hy hR hn hst hk hstk kx (fun r S' hp => ?_)
  obtain ⟨h, rfl, rfl⟩ := hp
  exact kk h
theorem x_callSv {y : MethodName} {ws ws' : List Cond} {fr ce sl lo index maxL n : Nat} {As rest : List Value} {cd : Int} {S1 : Mem} {bytes : ByteArray} {ret ret1 : Option FieldType}
    (hC : mCtx C own cc nL Ts rm g) (hX : xCtx C) (hR0 : xRet C g S0 ret Post PX rm) (hM : ∀ l, DoesX l y ws ({ frames := fr, cells := ce, slots := sl, locals := lo } : Room) g As S (XV cd S1) (XE cd S)) (hG : GoodIn Ts (va_wsS own index y ws)) (hw : ws = Cond.code y bytes maxL ret1 :: ws') (hd : decode cc pc = .ok (.invokestatic index, 3))
    (hy : y.cls = own ∧ y.cls ≠ "java/lang/invoke/MethodHandle" ∧ y.cls ≠ "java/lang/invoke/VarHandle" ∧ (parseMethodDescriptor y.desc).map (fun d => d.parameters.length) = some n) (hR : fr + 1 ≤ rm.frames ∧ 8 + (maxL + 11) + lo ≤ rm.locals) (hn : As.length = n) (hst : (rest.map fun v => v.category).sum ≤ 8) (hk : k.1 + ce ≤ rm.cells ∧ k.2 + sl ≤ rm.slots) (hstk : st = As.reverse ++ rest) (kx : ∀ E S', XE cd S E S' → PX E S')
    (kk : cd = 0 → MW C g nL (k.1 + ce, k.2 + sl) (pc + 3) lv rest S1) : MW C g nL k pc lv st S := by
  refine x_callS hC hX hR0 hM hG hw hd hy hR hn hst hk hstk kx (fun r S' hp => ?_)
  obtain ⟨h, rfl, rfl⟩ := hp
  exact kk h
end XCALLS
def xAt (ic : Nat) (cls : String) : List Cond := vx_atS RX4 ic cls ["java/lang/RuntimeException", "java/lang/Exception"]
theorem xb_59 : ∀ w ∈ (vx_atS RX4 59 xISE ["java/lang/RuntimeException", "java/lang/Exception"]).filter (fun w => !goodWord w), w ∈ xBad := fun w hw => by
  obtain ⟨h1, h2⟩ := List.mem_filter.mp hw
  refine List.mem_filter.mpr ⟨?_, h2⟩
  simp only [List.mem_append]
  exact Or.inl (Or.inl h1)
theorem xb_198 : ∀ w ∈ (vx_atS RX4 198 xIOB ["java/lang/RuntimeException", "java/lang/Exception"]).filter (fun w => !goodWord w), w ∈ xBad := fun w hw => by
  obtain ⟨h1, h2⟩ := List.mem_filter.mp hw
  refine List.mem_filter.mpr ⟨?_, h2⟩
  simp only [List.mem_append]
  exact Or.inl (Or.inr h1)
theorem xb_216 : ∀ w ∈ (vx_atS RX4 216 xIAE ["java/lang/RuntimeException", "java/lang/Exception"]).filter (fun w => !goodWord w), w ∈ xBad := fun w hw => by
  obtain ⟨h1, h2⟩ := List.mem_filter.mp hw
  refine List.mem_filter.mpr ⟨?_, h2⟩
  simp only [List.mem_append]
  exact Or.inr h1
theorem xg_59 : ∀ w ∈ Cond.classLink RX4 55 xISE :: Cond.initialized xISE :: vx_atS RX4 59 xISE ["java/lang/RuntimeException", "java/lang/Exception"], vx_ot w = true := by decide +kernel
theorem xg_198 : ∀ w ∈ Cond.classLink RX4 194 xIOB :: Cond.initialized xIOB :: vx_atS RX4 198 xIOB ["java/lang/RuntimeException", "java/lang/Exception"], vx_ot w = true := by decide +kernel
theorem xg_216 : ∀ w ∈ Cond.classLink RX4 212 xIAE :: Cond.initialized xIAE :: vx_atS RX4 216 xIAE ["java/lang/RuntimeException", "java/lang/Exception"], vx_ot w = true := by decide +kernel
