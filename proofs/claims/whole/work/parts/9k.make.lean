/-! ===== making: worlds that grow ===== -/
def tys3 (T3 : Nat → ClassId) : List (ClassId × FieldType) := [(T3 0, .int), (T3 1, .boolean), (T3 2, .long)]
/-- what the tables say of the nest mates' constructors -/
def mkN : List (Nat × MethodName) := [(20, yX3_init), (27, yX0_init), (40, yX1_init)]
def nK (U : State) : Prop := ∀ q ∈ mkN, va_Nw (.methodLinkNest RX4 q.1 q.2 RX4) U
theorem nK.same {u U : State} (h : u.vm = U.vm) (hN : nK u) : nK U := fun q hq => (hN q hq).same rfl h
theorem nK.warm {s U : State} (hW : s.WarmedH U.vm) (hN : nK s) : nK U := fun q hq => (hN q hq).warmM hW
def wCtx (C : mX) (own : String) (cc : ByteArray) (nL : Nat) (Ts : List Cond) (rm : Room) (D : va_G) (T3 : Nat → ClassId) : Prop := match C with
  | (p, l, e, R, s, m, args, below, meth, c, Q, A) => p.tables.exec = Jvm.exec ∧ c.code = cc ∧ c.maxLocals = nL ∧ s.vm.findClass own = some m.cls ∧ (∀ w ∈ Ts, w.before args s = true) ∧ va_K D vwCl (tys3 T3) s ∧ (∀ q, s.heap.size ≤ q → A q) ∧ meth.locks = false ∧ R = rm ∧ nK s
def GW (C : mX) (D : va_G) (nL : Nat) (ws : va_W) (k : Nat × Nat) (pc : Nat) (lv : List (Nat × Value)) (st : List Value) : Prop := match C with
  | (p, l, e, R, s, m, args, below, meth, c, Q, A) => ∀ (H : Heap) (locs : List Loc) (ls : Array Slot), lv_has ls nL lv → va_P D vwCl ws H → va_D A ws → va_S A s.heap H locs → W p l e R s m args below meth c H locs k.1 k.2 Q (F0 m pc ls st)
/-- a constructor's contract: from this object, with these arguments, it returns, over a world as Post says -/
def Makes (l : Launch) (y : MethodName) (ws : List Cond) (rm : Room) (D : va_G) (T3 : Nat → ClassId) (h0 : Nat) (As : List Value) (e0 : va_E) (Post : va_W → Prop) : Prop :=
  ∀ sz : Nat, Met l y ws rm (va_Pc (.ref h0 :: As) (fun U => U.heap.size = sz ∧ va_P D vwCl [(h0, e0)] U.heap ∧ va_K D vwCl (tys3 T3) U ∧ va_D (fun _ => True) [(h0, e0)] ∧ nK U)) (va_Qv Post (fun w1 t => va_P D vwCl w1 t.heap ∧ va_D (va_A [(h0, e0)] sz) w1) (va_A [(h0, e0)] sz)) rm.cells rm.slots (va_A [(h0, e0)] sz)
def wRet (C : mX) (D : va_G) (h0 : Nat) (e0 : va_E) (Post : va_W → Prop) (rm : Room) : Prop := match C with
  | (p, l, e, R, s, m, args, below, meth, c, Q, A) => meth.sig.returnType = none ∧ meth.name = "<init>" ∧ Q = MQ below (va_Qv Post (fun w1 t => va_P D vwCl w1 t.heap ∧ va_D (va_A [(h0, e0)] s.heap.size) w1) (va_A [(h0, e0)] s.heap.size)) args s rm.cells rm.slots (va_A [(h0, e0)] s.heap.size) ∧ A = va_A [(h0, e0)] s.heap.size
theorem Makes.of {l : Launch} {y : MethodName} {ws ws' : List Cond} {rm : Room} {D : va_G} {T3 : Nat → ClassId} {h0 : Nat} {As : List Value} {e0 : va_E} {Post : va_W → Prop} {cc : ByteArray} {maxL : Nat} {own : String} (hy : plainName y.cls = true) (hw : ws = Cond.code y cc maxL none :: ws') (hown : y.cls = own) (hnm : y.name = "<init>") (hav : (lg_sl (.ref h0 :: As)).length ≤ maxL)
    (body : ∀ C : mX, wCtx C own cc maxL ws rm D T3 → wRet C D h0 e0 Post rm → GW C D maxL [(h0, e0)] (0, 0) 0 (lv_args 0 (.ref h0 :: As)) []) : Makes l y ws rm D T3 h0 As e0 Post := by
  intro sz
  refine Met.ofW (cc := cc) (maxL := maxL) (ret := none) hy hw ?_
  intro p e s m args below meth c s₁ B hml hv
  obtain ⟨rfl, hsz, hP, hK, hD0, hN⟩ := hv
  have hts := atoms_spec (ws := ws) B.pre
  have hown' : s.vm.findClass own = some m.cls := hown ▸ findClass_of_methodNamed B.named
  have hin : meth.name = "<init>" := ((name_of_methodNamed B.named B.method).1).trans hnm
  subst hsz
  have hD := hD0.self (sz := s.heap.size)
  rw [lg_entry_eq]
  have hl := lv_entry (.ref h0 :: As) (n := maxL) hav
  exact body (p, l, e, (headSpec ws rm).room, s, m, (.ref h0 :: As).toArray, below, meth, c, _, va_A [(h0, e0)] s.heap.size) ⟨B.exec, B.bytes, hml, hown', hts, hK, fun q h => Or.inr h, B.notSynchronized, rfl, hN⟩ ⟨B.returns, hin, rfl, rfl⟩ s.heap [] _ hl hP hD va_S.rf
section WINS
variable {C : mX} {own : String} {cc : ByteArray} {nL : Nat} {Ts : List Cond} {rm : Room} {D : va_G} {T3 : Nat → ClassId} {k : Nat × Nat} {pc : Nat} {lv : List (Nat × Value)} {st : List Value} {ws : va_W}
theorem w_iconst (hC : wCtx C own cc nL Ts rm D T3) {n v : Int} (hd : decode cc pc = .ok (.iconst n, 1)) (hv : Int32.ofInt n = z32 v) (kk : GW C D nL ws k (pc + 1) lv (.int (z32 v) :: st)) : GW C D nL ws k pc lv st := by
  obtain ⟨p, l, e, R, s, m, args, below, meth, c, Q, A⟩ := C
  obtain ⟨hx, hb, hml, hown, hts, hK, hA, hlk, hR, hN⟩ := hC
  intro H locs ls hl hP hD hS
  exact lv_iconst hx hb hd hv (kk H locs ls hl hP hD hS)
theorem w_bipush (hC : wCtx C own cc nL Ts rm D T3) {n v : Int} (hd : decode cc pc = .ok (.bipush n, 2)) (hv : (Int8.ofInt n).toInt32 = z32 v) (kk : GW C D nL ws k (pc + 2) lv (.int (z32 v) :: st)) : GW C D nL ws k pc lv st := by
  obtain ⟨p, l, e, R, s, m, args, below, meth, c, Q, A⟩ := C
  obtain ⟨hx, hb, hml, hown, hts, hK, hA, hlk, hR, hN⟩ := hC
  intro H locs ls hl hP hD hS
  exact lv_bipush hx hb hd hv (kk H locs ls hl hP hD hS)
theorem w_sipush (hC : wCtx C own cc nL Ts rm D T3) {n v : Int} (hd : decode cc pc = .ok (.sipush n, 3)) (hv : (Int16.ofInt n).toInt32 = z32 v) (kk : GW C D nL ws k (pc + 3) lv (.int (z32 v) :: st)) : GW C D nL ws k pc lv st := by
  obtain ⟨p, l, e, R, s, m, args, below, meth, c, Q, A⟩ := C
  obtain ⟨hx, hb, hml, hown, hts, hK, hA, hlk, hR, hN⟩ := hC
  intro H locs ls hl hP hD hS
  exact lv_sipush hx hb hd hv (kk H locs ls hl hP hD hS)
theorem w_aload_n (hC : wCtx C own cc nL Ts rm D T3) {j : Fin 4} {a : Nat} (hd : decode cc pc = .ok (.aload_n j, 1)) (q : Nat) (hq : lv[q]? = some ((j : Nat), .ref a)) (kk : GW C D nL ws k (pc + 1) lv (.ref a :: st)) : GW C D nL ws k pc lv st := by
  obtain ⟨p, l, e, R, s, m, args, below, meth, c, Q, A⟩ := C
  obtain ⟨hx, hb, hml, hown, hts, hK, hA, hlk, hR, hN⟩ := hC
  intro H locs ls hl hP hD hS
  exact lv_aload_n hx hb hd rfl (lv_at hl q hq) (kk H locs ls hl hP hD hS)
theorem w_iload_n (hC : wCtx C own cc nL Ts rm D T3) {j : Fin 4} {a : Int} (hd : decode cc pc = .ok (.iload_n j, 1)) (q : Nat) (hq : lv[q]? = some ((j : Nat), .int (z32 a))) (kk : GW C D nL ws k (pc + 1) lv (.int (z32 a) :: st)) : GW C D nL ws k pc lv st := by
  obtain ⟨p, l, e, R, s, m, args, below, meth, c, Q, A⟩ := C
  obtain ⟨hx, hb, hml, hown, hts, hK, hA, hlk, hR, hN⟩ := hC
  intro H locs ls hl hP hD hS
  exact lv_iload_n hx hb hd rfl (lv_at hl q hq) (kk H locs ls hl hP hD hS)
theorem w_astore_n (hC : wCtx C own cc nL Ts rm D T3) {j : Fin 4} {a : Nat} (hd : decode cc pc = .ok (.astore_n j, 1)) (lv' : List (Nat × Value)) (hn : (j : Nat) < nL) (hl : ((j : Nat), Value.ref a) :: lv.filter (fun q => !(q.1 == (j : Nat)) && !(q.1 + 1 == (j : Nat) && q.2.category == 2)) = lv') (kk : GW C D nL ws k (pc + 1) lv' st) : GW C D nL ws k pc lv (.ref a :: st) := by
  obtain ⟨p, l, e, R, s, m, args, below, meth, c, Q, A⟩ := C
  obtain ⟨hx, hb, hml, hown, hts, hK, hA, hlk, hR, hN⟩ := hC
  intro H locs ls hl0 hP hD hS
  exact lv_astore_n hx hb hd rfl hl0 hn hl (fun ls hl1 => kk H locs ls hl1 hP hD hS)
theorem w_dup (hC : wCtx C own cc nL Ts rm D T3) {va : Value} (hd : decode cc pc = .ok (.dup, 1)) (hva : va.category = 1) (kk : GW C D nL ws k (pc + 1) lv (va :: va :: st)) : GW C D nL ws k pc lv (va :: st) := by
  obtain ⟨p, l, e, R, s, m, args, below, meth, c, Q, A⟩ := C
  obtain ⟨hx, hb, hml, hown, hts, hK, hA, hlk, hR, hN⟩ := hC
  intro H locs ls hl hP hD hS
  exact lv_dup hx hb hd hva (kk H locs ls hl hP hD hS)
theorem w_imul (hC : wCtx C own cc nL Ts rm D T3) {a b : Int} (hd : decode cc pc = .ok (.imul, 1)) (kk : GW C D nL ws k (pc + 1) lv (.int (z32 (a * b)) :: st)) : GW C D nL ws k pc lv (.int (z32 b) :: .int (z32 a) :: st) := by
  obtain ⟨p, l, e, R, s, m, args, below, meth, c, Q, A⟩ := C
  obtain ⟨hx, hb, hml, hown, hts, hK, hA, hlk, hR, hN⟩ := hC
  intro H locs ls hl hP hD hS
  have kk := kk H locs ls hl hP hD hS
  rw [← z32_mul] at kk
  exact lv_imul hx hb hd kk
theorem w_min (hC : wCtx C own cc nL Ts rm D T3) {index : Nat} {a b v : Int} (hlink : Cond.methodLink own index Lib.Math.min.name ∈ Ts) (hstat : Cond.static Lib.Math.min.name ∈ Ts) (hini : Cond.initialized "java/lang/Math" ∈ Ts) (hcode : Cond.code Lib.Math.min.name Lib.Math.min.code 2 (some .int) ∈ Ts) (hd : decode cc pc = .ok (.invokestatic index, 3)) (hf : 1 ≤ rm.frames) (hlo : (st.map fun v => v.category).sum + 13 ≤ rm.locals) (hk : k.1 ≤ rm.cells ∧ k.2 ≤ rm.slots)
    (ha : -2147483648 ≤ a ∧ a < 2147483648) (hb0 : -2147483648 ≤ b ∧ b < 2147483648) (hv : (if b < a then b else a) = v) (kk : GW C D nL ws k (pc + 3) lv (.int (z32 v) :: st)) : GW C D nL ws k pc lv (.int (z32 b) :: .int (z32 a) :: st) := by
  obtain ⟨p, l, e, R, s, m, args, below, meth, c, Q, A⟩ := C
  obtain ⟨hx, hb, hml, hown, hts, hK, hA, hlk, hRR, hN⟩ := hC
  intro H locs ls hl hP hD hS
  subst hRR
  subst hv
  refine va_mmin hx hb (hml.trans hl.1.symm) hown (hts _ hlink) (hts _ hstat) (hts _ hini) (hts _ hcode) hf hlo hk.1 hk.2 hd ?_
  have kk := kk H locs ls hl hP hD hS
  rw [show (if z32 b < z32 a then z32 b else z32 a) = z32 (if b < a then b else a) by
    by_cases h : b < a
    · rw [if_pos h, if_pos ((z32_lt hb0 ha).mpr h)]
    · rw [if_neg h, if_neg (fun q => h ((z32_lt hb0 ha).mp q))]]
  exact kk
theorem w_max (hC : wCtx C own cc nL Ts rm D T3) {index : Nat} {a b v : Int} (hlink : Cond.methodLink own index Lib.Math.max.name ∈ Ts) (hstat : Cond.static Lib.Math.max.name ∈ Ts) (hini : Cond.initialized "java/lang/Math" ∈ Ts) (hcode : Cond.code Lib.Math.max.name Lib.Math.max.code 2 (some .int) ∈ Ts) (hd : decode cc pc = .ok (.invokestatic index, 3)) (hf : 1 ≤ rm.frames) (hlo : (st.map fun v => v.category).sum + 13 ≤ rm.locals) (hk : k.1 ≤ rm.cells ∧ k.2 ≤ rm.slots)
    (ha : -2147483648 ≤ a ∧ a < 2147483648) (hb0 : -2147483648 ≤ b ∧ b < 2147483648) (hv : (if a < b then b else a) = v) (kk : GW C D nL ws k (pc + 3) lv (.int (z32 v) :: st)) : GW C D nL ws k pc lv (.int (z32 b) :: .int (z32 a) :: st) := by
  obtain ⟨p, l, e, R, s, m, args, below, meth, c, Q, A⟩ := C
  obtain ⟨hx, hb, hml, hown, hts, hK, hA, hlk, hRR, hN⟩ := hC
  intro H locs ls hl hP hD hS
  subst hRR
  subst hv
  refine va_mmax hx hb (hml.trans hl.1.symm) hown (hts _ hlink) (hts _ hstat) (hts _ hini) (hts _ hcode) hf hlo hk.1 hk.2 hd ?_
  have kk := kk H locs ls hl hP hD hS
  rw [show (if z32 a < z32 b then z32 b else z32 a) = z32 (if a < b then b else a) by
    by_cases h : a < b
    · rw [if_pos h, if_pos ((z32_lt ha hb0).mpr h)]
    · rw [if_neg h, if_neg (fun q => h ((z32_lt ha hb0).mp q))]]
  exact kk
theorem w_objInit (hC : wCtx C own cc nL Ts rm D T3) {idx a : Nat} (hlink : Cond.methodLink own idx Lib.objectInit ∈ Ts) (hinst : Cond.instanceMethod Lib.objectInit ∈ Ts) (hcode : Cond.code Lib.objectInit ⟨#[0xb1]⟩ 1 none ∈ Ts) (hd : decode cc pc = .ok (.invokespecial idx, 3)) (hf : 1 ≤ rm.frames) (hlo : (st.map fun v => v.category).sum + 12 ≤ rm.locals) (kk : GW C D nL ws k (pc + 3) lv st) : GW C D nL ws k pc lv (.ref a :: st) := by
  obtain ⟨p, l, e, R, s, m, args, below, meth, c, Q, A⟩ := C
  obtain ⟨hx, hb, hml, hown, hts, hK, hA, hlk, hRR, hN⟩ := hC
  intro H locs ls hl hP hD hS
  subst hRR
  refine W.objInit hx hb hown (hts _ hlink) (hts _ hinst) (hts _ hcode) rfl (by rw [hml]; exact hl.1) rfl hd hf (by show 2 * 0 + _ + 12 ≤ _; omega) ?_
  exact W.eq (g2 := F0 m (pc + 3) ls st) rfl (kk H locs ls hl hP hD hS)
theorem w_new (hC : wCtx C own cc nL Ts rm D T3) {CN : String} {T : u_T} {N index ci : Nat} {fs : List Value} (hin : ∀ w ∈ u_ws CN T N, w ∈ Ts) (ty : Nat → FieldType) (hty : ∀ k, k < N → parseFieldDescriptor (T k).2.2.1 = some (ty k)) (hcl : Cond.classLink own index CN ∈ Ts) (hinst : Cond.instantiable CN N ∈ Ts) (hini : Cond.initialized CN ∈ Ts) (hc : vwCl[ci]? = some (CN, T, N)) (hfs : ∀ j, j < N → defaultValue (ty j) = vp_V fs j) (hk : k.1 + 1 ≤ rm.cells ∧ k.2 + N ≤ rm.slots) (hd : decode cc pc = .ok (.new index, 3))
    (kk : ∀ q : Nat, GW C D nL (ws ++ [(q, .inr (ci, fs))]) (k.1 + 1, k.2 + N) (pc + 3) lv (.ref q :: st)) : GW C D nL ws k pc lv st := by
  obtain ⟨p, l, e, R, s, m, args, below, meth, c, Q, A⟩ := C
  obtain ⟨hx, hb, hml, hown, hts, hK, hA, hlk, hRR, hN⟩ := hC
  intro H locs ls hl hP hD hS
  subst hRR
  exact va_new hx hb hts hin ty hty hown (hts _ hcl) (hts _ hinst) (hts _ hini) hK hP hD hS hA hc hfs hk.1 hk.2 hd (fun q H1 hP1 hD1 hS1 => kk q H1 locs ls hl hP1 hD1 hS1)
theorem w_newa (hC : wCtx C own cc nL Ts rm D T3) {atype : ArrayType} {ty : FieldType} {t N' : Nat} {n : Int} {a0 : vp_A} (harr : Cond.arrayClass (newarray.typeOf atype) ∈ Ts) (hty : newarray.typeOf atype = ty) (ht : (tys3 T3)[t]? = some (T3 t, ty)) (h3 : ty = .int ∨ ty = .boolean ∨ ty = .long) (ha : ∀ cA : ClassId, vp_cell cA a0 = arrV cA N' (fun _ => defaultValue ty)) (hn : ¬ z32 n < 0) (hN9 : (z32 n).toNatClampNeg = N') (hbytes : N' * componentBytes ty ≤ 536870912) (hk : k.1 + 1 ≤ rm.cells ∧ k.2 + N' ≤ rm.slots) (hd : decode cc pc = .ok (.newarray atype, 2))
    (kk : ∀ q : Nat, GW C D nL (ws ++ [(q, .inl (T3 t, a0))]) (k.1 + 1, k.2 + N') (pc + 2) lv (.ref q :: st)) : GW C D nL ws k pc lv (.int (z32 n) :: st) := by
  obtain ⟨p, l, e, R, s, m, args, below, meth, c, Q, A⟩ := C
  obtain ⟨hx, hb, hml, hown, hts, hK, hA, hlk, hRR, hN⟩ := hC
  intro H locs ls hl hP hD hS
  subst hRR
  refine va_newa hx hb (hts _ harr) hty hK hP hD hS hA ha hn hN9 hbytes hk.1 hk.2 hd (fun q cA H1 hK1 hP1 hD1 hS1 => ?_)
  have e1 := (hK1.2 3 (cA, ty) rfl).2
  have e2 := (hK.2 t _ ht).2
  have e3 : cA = T3 t := by
    rcases h3 with rfl | rfl | rfl
    · exact Option.some.inj (e1.symm.trans e2)
    · exact Option.some.inj (e1.symm.trans e2)
    · exact Option.some.inj (e1.symm.trans e2)
  subst e3
  exact kk q H1 locs ls hl hP1 hD1 hS1
theorem w_putF (hC : wCtx C own cc nL Ts rm D T3) {h0 : Nat} {e0 : va_E} {Post : va_W → Prop} (hR : wRet C D h0 e0 Post rm) {CN : String} {T : u_T} {N ci index o j a : Nat} {fs : List Value} {v : Value} {ty : FieldType} (hin : ∀ w ∈ u_ws CN T N, w ∈ Ts) (hlk : Cond.fieldLink own index (T j).1 (T j).2.1 (T j).2.2.1 ∈ Ts) (hd : decode cc pc = .ok (.putfield index, 3)) (he : ws[o]? = some (a, .inr (ci, fs))) (hc : vwCl[ci]? = some (CN, T, N)) (hj : j < N) (ty0 : Nat → FieldType) (hty : ∀ k, k < N → parseFieldDescriptor (T k).2.2.1 = some (ty0 k)) (hnm : ∀ a, a < N → ∀ b, b < N → a ≠ b → (T a).2.1 ≠ (T b).2.1) (hfin : (T j).2.2.2 = true) (hdecl : (T j).1 = own) (hti : parseFieldDescriptor (T j).2.2.1 = some ty) (hnar : narrow ty v = v) (hfit : fits ty v = true) (hl9 : j < fs.length)
    (kk : GW C D nL (ws.set o (a, .inr (ci, fs.set j v))) k (pc + 3) lv st) : GW C D nL ws k pc lv (v :: .ref a :: st) := by
  obtain ⟨p, l, e, R, s, m, args, below, meth, c, Q, A⟩ := C
  obtain ⟨hx, hb, hml, hown, hts, hK, hA, hlk0, hRR, hN⟩ := hC
  obtain ⟨hr, hnam, -, -⟩ := hR
  intro H locs ls hl hP hD hS
  exact va_putF hx hb hts hin ty0 hty hnm hown hK hP hD hS o he hc j hj (hts _ hlk) (fun _ h9 => h9) hfin hnam hdecl hti hnar hfit hl9 hd (fun H1 locs1 hP1 hD1 hS1 => kk H1 locs1 ls hl hP1 hD1 hS1)
theorem w_put (hC : wCtx C own cc nL Ts rm D T3) {CN : String} {T : u_T} {N ci index o j a : Nat} {fs : List Value} {v : Int} (hin : ∀ w ∈ u_ws CN T N, w ∈ Ts) (hlk : Cond.fieldLink own index (T j).1 (T j).2.1 (T j).2.2.1 ∈ Ts) (hd : decode cc pc = .ok (.putfield index, 3)) (he : ws[o]? = some (a, .inr (ci, fs))) (hc : vwCl[ci]? = some (CN, T, N)) (hj : j < N) (ty0 : Nat → FieldType) (hty : ∀ k, k < N → parseFieldDescriptor (T k).2.2.1 = some (ty0 k)) (hnm : ∀ a, a < N → ∀ b, b < N → a ≠ b → (T a).2.1 ≠ (T b).2.1) (hfin : (T j).2.2.2 = false) (hti : parseFieldDescriptor (T j).2.2.1 = some .int) (hl9 : j < fs.length)
    (kk : GW C D nL (ws.set o (a, .inr (ci, fs.set j (.int (z32 v))))) k (pc + 3) lv st) : GW C D nL ws k pc lv (.int (z32 v) :: .ref a :: st) := by
  obtain ⟨p, l, e, R, s, m, args, below, meth, c, Q, A⟩ := C
  obtain ⟨hx, hb, hml, hown, hts, hK, hA, hlk0, hRR, hN⟩ := hC
  intro H locs ls hl hP hD hS
  exact va_put hx hb hts hin ty0 hty hnm hown hK hP hD hS o he hc j hj (hts _ hlk) (fun _ h9 => h9) hfin hti (v := .int (z32 v)) rfl rfl hl9 hd (fun H1 locs1 hP1 hD1 hS1 => kk H1 locs1 ls hl hP1 hD1 hS1)
theorem w_get (hC : wCtx C own cc nL Ts rm D T3) {CN : String} {T : u_T} {N ci index o j a : Nat} {fs : List Value} {v : Value} (hin : ∀ w ∈ u_ws CN T N, w ∈ Ts) (hlk : Cond.fieldLink own index (T j).1 (T j).2.1 (T j).2.2.1 ∈ Ts) (hd : decode cc pc = .ok (.getfield index, 3)) (he : ws[o]? = some (a, .inr (ci, fs))) (hc : vwCl[ci]? = some (CN, T, N)) (hj : j < N) (hv : fs[j]? = some v) (kk : GW C D nL ws k (pc + 3) lv (v :: st)) : GW C D nL ws k pc lv (.ref a :: st) := by
  obtain ⟨p, l, e, R, s, m, args, below, meth, c, Q, A⟩ := C
  obtain ⟨hx, hb, hml, hown, hts, hK, hA, hlk0, hRR, hN⟩ := hC
  intro H locs ls hl hP hD hS
  exact va_get hx hb hts hin hown hK hP o he hc j hj (hts _ hlk) (fun _ h9 => h9) hv hd (kk H locs ls hl hP hD hS)
theorem w_init (hC : wCtx C own cc nL Ts rm D T3) {y : MethodName} {ws0 ws0' : List Cond} {rm' : Room} {index maxL n b : Nat} {e0 : va_E} {As rest : List Value} {Post : va_W → Prop} {bytes : ByteArray} (wr : va_W) (isC isR : List Nat)
    (hM : ∀ l, Makes l y ws0 rm' D T3 b As e0 Post) (hG : GoodIn Ts ws0) (hw : ws0 = Cond.code y bytes maxL none :: ws0') (hini : Cond.initialized y.cls ∈ Ts) (hli : Cond.methodLink own index y ∈ Ts) (hin : Cond.instanceMethod y ∈ Ts) (hy1 : y.name = "<init>") (hd0 : y.cls ≠ "java/lang/invoke/MethodHandle" ∧ y.cls ≠ "java/lang/invoke/VarHandle" ∧ (parseMethodDescriptor y.desc).map (fun d => d.parameters.length) = some n) (hRm : rm'.frames + 1 ≤ rm.frames ∧ 8 + (maxL + 11) + rm'.locals ≤ rm.locals) (hd : decode cc pc = .ok (.invokespecial index, 3)) (hn : As.length = n) (hst : (rest.map fun v => v.category).sum ≤ 8) (hk : k.1 + rm'.cells ≤ rm.cells ∧ k.2 + rm'.slots ≤ rm.slots) (hstk : st = As.reverse ++ .ref b :: rest)
    (hs : isC.filterMap (fun i => ws[i]?) = [(b, e0)]) (hCc : isC.map (fun i => ws[i]?) = [(b, e0)].map some) (hnC : va_nd isC = true) (hRr : isR.map (fun i => ws[i]?) = wr.map some) (hnR : va_nd isR = true) (hdis : ∀ i ∈ isR, i ∉ isC)
    (kk : ∀ w1 : va_W, Post w1 → GW C D nL (wr ++ w1) (k.1 + rm'.cells, k.2 + rm'.slots) (pc + 3) lv rest) : GW C D nL ws k pc lv st := by
  obtain ⟨p, l, e, R, s, m, args, below, meth, c, Q, A⟩ := C
  obtain ⟨hx, hb, hml, hown, hts, hK, hA, hlk0, hRR, hN⟩ := hC
  intro H locs ls hl hP hD hS
  subst hRR
  have hPc := hP.sub isC hs
  have hDc := hD.sub isC hnC hCc
  have hFc := va_free (wc := [(b, e0)]) hD hS hA isC hCc
  refine va_callv (va_runI (As := As) (rest := rest) ⟨hx, hb, hml, hown, hts⟩ (hM l H.size) (cwI n hts hG hw rfl rfl (hts _ hini) (hts _ hli) (hts _ hin) hy1 hd0 hRm) ⟨fun a U g mk q => by obtain ⟨q0, q1, qP, qK, qD, qN⟩ := q; exact ⟨q0, q1, qP, va_K.moved (u := U) (U := U.calling g mk a) (Vm.Alike.refl U.vm) qK, qD, nK.same (u := U) (U := U.calling g mk a) rfl qN⟩, fun U hU hW => ⟨rfl, by rw [hU], by rw [hU]; exact hPc, va_K.moved hW.alike hK, hDc.weaken (fun _ _ _ _ => trivial), nK.warm hW hN⟩⟩ rfl hn hl.1 hstk (lv_room hst) hd hk) hS (fun q _ h => hFc q h) hFc (fun w1 t H1 locs ht hvm hp hB hz1 hk1 hS1 => ?_)
  obtain ⟨hP1, hD1⟩ := hB
  rw [ht] at hP1
  obtain ⟨hP2, hD2⟩ := va_join (wr := wr) (w1 := w1) hP hD isC isR hCc hRr hnR hdis hk1 hFc hP1 hD1
  exact kk w1 hp H1 locs ls hl hP2 hD2 hS1
theorem w_initN (hC : wCtx C own cc nL Ts rm D T3) {y : MethodName} {ws0 ws0' : List Cond} {rm' : Room} {index maxL n b : Nat} {e0 : va_E} {As rest : List Value} {Post : va_W → Prop} {bytes : ByteArray} (wr : va_W) (isC isR : List Nat)
    (hM : ∀ l, Makes l y ws0 rm' D T3 b As e0 Post) (hG : GoodIn Ts ws0) (hw : ws0 = Cond.code y bytes maxL none :: ws0') (hini : Cond.initialized y.cls ∈ Ts) (hli : (index, y) ∈ mkN) (hown4 : own = RX4) (hin : Cond.instanceMethod y ∈ Ts) (hy1 : y.name = "<init>") (hd0 : y.cls ≠ "java/lang/invoke/MethodHandle" ∧ y.cls ≠ "java/lang/invoke/VarHandle" ∧ (parseMethodDescriptor y.desc).map (fun d => d.parameters.length) = some n) (hRm : rm'.frames + 1 ≤ rm.frames ∧ 8 + (maxL + 11) + rm'.locals ≤ rm.locals) (hd : decode cc pc = .ok (.invokespecial index, 3)) (hn : As.length = n) (hst : (rest.map fun v => v.category).sum ≤ 8) (hk : k.1 + rm'.cells ≤ rm.cells ∧ k.2 + rm'.slots ≤ rm.slots) (hstk : st = As.reverse ++ .ref b :: rest)
    (hs : isC.filterMap (fun i => ws[i]?) = [(b, e0)]) (hCc : isC.map (fun i => ws[i]?) = [(b, e0)].map some) (hnC : va_nd isC = true) (hRr : isR.map (fun i => ws[i]?) = wr.map some) (hnR : va_nd isR = true) (hdis : ∀ i ∈ isR, i ∉ isC)
    (kk : ∀ w1 : va_W, Post w1 → GW C D nL (wr ++ w1) (k.1 + rm'.cells, k.2 + rm'.slots) (pc + 3) lv rest) : GW C D nL ws k pc lv st := by
  obtain ⟨p, l, e, R, s, m, args, below, meth, c, Q, A⟩ := C
  obtain ⟨hx, hb, hml, hown, hts, hK, hA, hlk0, hRR, hN⟩ := hC
  intro H locs ls hl hP hD hS
  subst hRR
  subst hown4
  have hPc := hP.sub isC hs
  have hDc := hD.sub isC hnC hCc
  have hFc := va_free (wc := [(b, e0)]) hD hS hA isC hCc
  refine va_callv (va_runIN (As := As) (rest := rest) ⟨hx, hb, hml, hown, hts⟩ (hM l H.size) ⟨va_cnB n hts hG hw rfl rfl (hN _ hli) (hts _ hini) hd0 hRm, hy1, hts _ hin⟩ ⟨fun a U g mk q => by obtain ⟨q0, q1, qP, qK, qD, qN⟩ := q; exact ⟨q0, q1, qP, va_K.moved (u := U) (U := U.calling g mk a) (Vm.Alike.refl U.vm) qK, qD, nK.same (u := U) (U := U.calling g mk a) rfl qN⟩, fun U hU hW => ⟨rfl, by rw [hU], by rw [hU]; exact hPc, va_K.moved hW.alike hK, hDc.weaken (fun _ _ _ _ => trivial), nK.warm hW hN⟩⟩ rfl hn hl.1 hstk (lv_room hst) hd hk) hS (fun q _ h => hFc q h) hFc (fun w1 t H1 locs ht hvm hp hB hz1 hk1 hS1 => ?_)
  obtain ⟨hP1, hD1⟩ := hB
  rw [ht] at hP1
  obtain ⟨hP2, hD2⟩ := va_join (wr := wr) (w1 := w1) hP hD isC isR hCc hRr hnR hdis hk1 hFc hP1 hD1
  exact kk w1 hp H1 locs ls hl hP2 hD2 hS1
theorem w_vret (hC : wCtx C own cc nL Ts rm D T3) {h0 : Nat} {e0 : va_E} {Post : va_W → Prop} (hR : wRet C D h0 e0 Post rm) (hd : decode cc pc = .ok (.return_, 1)) (hk : k.1 ≤ rm.cells ∧ k.2 ≤ rm.slots) (hp : Post ws) : GW C D nL ws k pc lv [] := by
  obtain ⟨p, l, e, R, s, m, args, below, meth, c, Q, A⟩ := C
  obtain ⟨hx, hb, hml, hown, hts, hK, hA, hlk, hRR, hN⟩ := hC
  obtain ⟨hr, hnam, rfl, rfl⟩ := hR
  intro H locs ls hl hP hD hS
  exact W.widen hk.1 hk.2 (W.vret hx hb hr (fun t ht hW => ⟨⟨ws, rfl, hp, by rw [ht]; exact hP, hD⟩, hS.F ht⟩) hS.2.2 hd hlk)
end WINS
def zI (n : Nat) : vp_A := (n, .inl (fun _ => z32 0))
def tbE (R Cn : Int) (q : Nat) : va_E := .inr (2, [.int (z32 R), .int (z32 Cn), .ref q])
theorem dv_int : defaultValue FieldType.int = Value.int (z32 0) := by rw [← z32_0]; rfl
theorem dv_bool : defaultValue FieldType.boolean = Value.int (z32 0) := by rw [← z32_0]; rfl
theorem z32_nn {n : Int} (h : 0 ≤ n) (h2 : n < 2147483648) : ¬ z32 n < 0 := by
  rw [z32_0, z32_lt (by omega) (by omega)]; omega
set_option maxHeartbeats 4000000 in
set_option maxRecDepth 100000 in
/-- a table -/
theorem k_X2_init {D : va_G} {T3 : Nat → ClassId} {h0 : Nat} {R Cn : Int} {n : Nat} (hR0 : 0 < R ∧ R ≤ 100) (hC0 : 0 < Cn ∧ Cn ≤ 9) (hn : R * Cn = n) (hn9 : n ≤ 900) (l : Launch) : Makes l yX2_init wsX2_init ({ frames := 1, cells := 1, slots := n, locals := 30 } : Room) D T3 h0 [.int (z32 R), .int (z32 Cn)] (.inr (2, [.int (z32 0), .int (z32 0), .null])) (fun w => ∃ q, w = [(h0, tbE R Cn q), (q, .inl (T3 0, zI n))]) := by
  refine Makes.of (cc := cX2_init) (maxL := 3) (own := RX2) (by decide) rfl rfl rfl (Nat.le_of_ble_eq_true rfl) ?_
  intro C hC hR
  show GW C D 3 [(h0, .inr (2, [.int (z32 0), .int (z32 0), .null]))] (0, 0) 0 [(0, .ref h0), (1, .int (z32 R)), (2, .int (z32 Cn))] []
  refine w_aload_n hC dX2_init_0 0 rfl ?_
  refine w_objInit hC (by decide +kernel) (by decide +kernel) (by decide +kernel) dX2_init_1 (Nat.le_of_ble_eq_true rfl) (Nat.le_of_ble_eq_true rfl) ?_
  refine w_aload_n hC dX2_init_4 0 rfl ?_
  refine w_iconst (v := 0) hC dX2_init_5 (by decide) ?_
  refine w_iload_n hC dX2_init_6 1 rfl ?_
  refine w_bipush (v := 100) hC dX2_init_7 (by decide) ?_
  refine w_min (v := R) hC (by decide +kernel) (by decide +kernel) (by decide +kernel) (by decide +kernel) dX2_init_9 (Nat.le_of_ble_eq_true rfl) (Nat.le_of_ble_eq_true rfl) ⟨Nat.zero_le _, Nat.zero_le _⟩ (by omega) (by omega) (by rw [if_neg (by omega)]) ?_
  refine w_max (v := R) hC (by decide +kernel) (by decide +kernel) (by decide +kernel) (by decide +kernel) dX2_init_12 (Nat.le_of_ble_eq_true rfl) (Nat.le_of_ble_eq_true rfl) ⟨Nat.zero_le _, Nat.zero_le _⟩ (by omega) (by omega) (by rw [if_pos (by omega)]) ?_
  refine w_putF (o := 0) (j := 0) (ty := .int) (CN := RX2) (T := TX2) (N := 3) hC hR (by decide +kernel) (by decide +kernel) dX2_init_15 rfl rfl (by decide) tyX2 tyX2_ok nmX2 rfl rfl (by decide +kernel) rfl rfl (Nat.le_of_ble_eq_true rfl) ?_
  refine w_aload_n hC dX2_init_18 0 rfl ?_
  refine w_iconst (v := 0) hC dX2_init_19 (by decide) ?_
  refine w_iload_n hC dX2_init_20 2 rfl ?_
  refine w_bipush (v := 9) hC dX2_init_21 (by decide) ?_
  refine w_min (v := Cn) hC (by decide +kernel) (by decide +kernel) (by decide +kernel) (by decide +kernel) dX2_init_23 (Nat.le_of_ble_eq_true rfl) (Nat.le_of_ble_eq_true rfl) ⟨Nat.zero_le _, Nat.zero_le _⟩ (by omega) (by omega) (by rw [if_neg (by omega)]) ?_
  refine w_max (v := Cn) hC (by decide +kernel) (by decide +kernel) (by decide +kernel) (by decide +kernel) dX2_init_26 (Nat.le_of_ble_eq_true rfl) (Nat.le_of_ble_eq_true rfl) ⟨Nat.zero_le _, Nat.zero_le _⟩ (by omega) (by omega) (by rw [if_pos (by omega)]) ?_
  refine w_putF (o := 0) (j := 1) (ty := .int) (CN := RX2) (T := TX2) (N := 3) hC hR (by decide +kernel) (by decide +kernel) dX2_init_29 rfl rfl (by decide) tyX2 tyX2_ok nmX2 rfl rfl (by decide +kernel) rfl rfl (Nat.le_of_ble_eq_true rfl) ?_
  refine w_aload_n hC dX2_init_32 0 rfl ?_
  refine w_aload_n hC dX2_init_33 0 rfl ?_
  refine w_get (o := 0) (j := 0) (v := .int (z32 R)) (CN := RX2) (T := TX2) (N := 3) hC (by decide +kernel) (by decide +kernel) dX2_init_34 rfl rfl (by decide) rfl ?_
  refine w_aload_n hC dX2_init_37 0 rfl ?_
  refine w_get (o := 0) (j := 1) (v := .int (z32 Cn)) (CN := RX2) (T := TX2) (N := 3) hC (by decide +kernel) (by decide +kernel) dX2_init_38 rfl rfl (by decide) rfl ?_
  refine w_imul hC dX2_init_41 ?_
  rw [hn]
  refine w_newa (t := 0) (ty := .int) (N' := n) (a0 := zI n) hC (by decide +kernel) rfl rfl (Or.inl rfl) (fun cA => by rw [dv_int]; rfl) (z32_nn (by omega) (by omega)) (by rw [z32_cl (by omega) (by omega)]; rfl) (by show n * 4 ≤ _; omega) ⟨Nat.le_of_ble_eq_true rfl, by show 0 + n ≤ n; omega⟩ dX2_init_42 (fun q => ?_)
  refine w_putF (o := 0) (j := 2) (ty := .array .int) (CN := RX2) (T := TX2) (N := 3) hC hR (by decide +kernel) (by decide +kernel) dX2_init_44 rfl rfl (by decide) tyX2 tyX2_ok nmX2 rfl rfl (by decide +kernel) rfl rfl (Nat.le_of_ble_eq_true rfl) ?_
  refine w_vret hC hR dX2_init_47 ⟨Nat.le_of_ble_eq_true rfl, by show 0 + n ≤ n; omega⟩ ⟨q, rfl⟩
