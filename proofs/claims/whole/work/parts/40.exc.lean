/-! ===== exceptions that leave the class's methods, in whole numbers ===== -/
def xISE : String := "java/lang/IllegalStateException"
def xIOB : String := "java/lang/IndexOutOfBoundsException"
def xIAE : String := "java/lang/IllegalArgumentException"
def xSup : List String := ["java/lang/RuntimeException", "java/lang/Exception"]
def xBad : List Cond := [.castable xISE xISE, .castable xIOB xIOB, .castable xIAE xIAE]
def xTx : List (Nat × String) := [(102, "there are 100 trades"), (124, "the trade can't be disputed"), (140, "the trade is not disputed"), (148, "the guarantee would be above 1000"), (153, "less than that is guaranteed"), (196, "there is no such ring"), (203, "there is no such shop"), (205, "there was no such shop"), (210, "there is no such trade"), (214, "a number is out of range"), (217, "both shops are the same"), (219, "the balance and the limit are too low"), (57, "there were 8 shops"), (70, "a trade of the shop is disputed")]
/-- what a throw needs of the tables -/
def xK (U : State) : Prop := (∀ w ∈ xBad, w.before #[] U = true) ∧ ∀ q ∈ xTx, ∃ sa : Nat, vk_R RX4 q.1 q.2 sa U
/-- what a throw needs of the heap -/
def xZ (A : Nat → Prop) (U : State) (H : Heap) : Prop := vx_Zq Bundle.tN "UNASSIGNED_STACK" Bundle.steD A U H ∧ vx_Zq Bundle.tN "SUPPRESSED_SENTINEL" Bundle.listD A U H
theorem xBad_tabs : ∀ w ∈ xBad, Cond.tabsOnly w = true := by decide +kernel
theorem xK.moved {s U : State} (hW : s.WarmedH U.vm) (h : xK s) : xK U := by
  refine ⟨fun w hw => ?_, fun q hq => ?_⟩
  · have h1 := Cond.tabsOnly_warm (args' := #[]) (T := U) hW w (xBad_tabs w hw) (h.1 w hw)
    rwa [show U.setVm U.vm = U from by cases U; rfl] at h1
  · obtain ⟨sa, h1⟩ := h.2 q hq
    exact ⟨sa, vk_R.warm hW h1⟩
theorem xZ.moved {A B : Nat → Prop} {u U : State} {H H1 : Heap} (hvm : u.vm.Alike U.vm) (hq : ∀ a : Nat, a < H.size → ¬ A a → H1[a]? = H[a]?) (hAB : ∀ q, B q → A q) (h : xZ A u H) : xZ B U H1 := ⟨vx_Zq.narrow (vx_Zq.moved hvm (h.1.kept hq)) hAB, vx_Zq.narrow (vx_Zq.moved hvm (h.2.kept hq)) hAB⟩
def XPc (g : mG) (av : List Value) (S : Mem) (sz : Nat) : Array Value → State → Prop := va_Pc av (fun U => U.heap.size = sz ∧ va_P g.1 vwCl (mW g S) U.heap ∧ va_K g.1 vwCl (mTys g) U ∧ va_D (fun _ => True) (mW g S) ∧ xK U ∧ xZ (va_A (mW g S) sz) U U.heap)
def XQ (g : mG) (S : Mem) (sz : Nat) (Post : Option Value → Mem → Prop) : Array Value → State → Outcome → State → Prop := fun _ st oc t => (∃ (r : Option Value) (S' : Mem), oc = .returned r ∧ Post r S' ∧ va_P g.1 vwCl (mW g S') t.heap) ∧ va_F (va_A (mW g S) sz) st t
def XX (g : mG) (S : Mem) (sz : Nat) (PX : String → Mem → Prop) : String → State → State → Prop := fun E st t => (∃ S' : Mem, PX E S' ∧ va_P g.1 vwCl (mW g S') t.heap) ∧ va_F (va_A (mW g S) sz) st t
/-- a method's contract: it returns, as Post says, or throws, as PX says -/
def DoesX (l : Launch) (y : MethodName) (ws : List Cond) (rm : Room) (g : mG) (av : List Value) (S : Mem) (Post : Option Value → Mem → Prop) (PX : String → Mem → Prop) : Prop :=
  l.stackTraces = false → ∀ sz : Nat, vx_Met l y ws rm (XPc g av S sz) (XQ g S sz Post) (XX g S sz PX) rm.cells rm.slots (va_A (mW g S) sz)
def xCtx (C : mX) : Prop := match C with
  | (p, l, e, R, s, m, args, below, meth, c, Q, A) => l.stackTraces = false ∧ (∀ x ∈ c.exceptionTable.toList, False) ∧ xK s ∧ xZ A s s.heap
def xRet (C : mX) (g : mG) (S0 : Mem) (ret : Option FieldType) (Post : Option Value → Mem → Prop) (PX : String → Mem → Prop) (rm : Room) : Prop := match C with
  | (p, l, e, R, s, m, args, below, meth, c, Q, A) => meth.sig.returnType = ret ∧ Q = vx_MQ below (XQ g S0 s.heap.size Post) (XX g S0 s.heap.size PX) args s rm.cells rm.slots (va_A (mW g S0) s.heap.size) ∧ A = va_A (mW g S0) s.heap.size
theorem DoesX.of {l : Launch} {y : MethodName} {ws ws' : List Cond} {rm : Room} {g : mG} {av : List Value} {S : Mem} {Post : Option Value → Mem → Prop} {PX : String → Mem → Prop} {cc : ByteArray} {maxL : Nat} {ret : Option FieldType} {own : String} (hy : plainName y.cls = true) (hw : ws = Cond.code y cc maxL ret :: ws') (hown : y.cls = own) (hav : (lg_sl av).length ≤ maxL)
    (body : ∀ C : mX, mCtx C own cc maxL ws rm g → xCtx C → xRet C g S ret Post PX rm → MW C g maxL (0, 0) 0 (lv_args 0 av) [] S) : DoesX l y ws rm g av S Post PX := by
  intro hfl sz
  refine vx_ofW (cc := cc) (maxL := maxL) (ret := ret) hy hw ?_
  intro p e s m args below meth c s₁ B hml htab hv
  obtain ⟨rfl, hsz, hP, hK, hD0, hxk, hxz⟩ := hv
  have hts := atoms_spec (ws := ws) B.pre
  have hown' : s.vm.findClass own = some m.cls := hown ▸ findClass_of_methodNamed B.named
  subst hsz
  have hD := hD0.self (sz := s.heap.size)
  rw [lg_entry_eq]
  have hl := lv_entry av (n := maxL) hav
  exact body (p, l, e, (headSpec ws rm).room, s, m, av.toArray, below, meth, c, _, va_A (mW g S) s.heap.size) ⟨B.exec, B.bytes, hml, hown', hts, hK, mD_of _ hD, fun q h => Or.inr h, B.notSynchronized, rfl⟩ ⟨hfl, htab, hxk, hxz⟩ ⟨B.returns, rfl, rfl⟩ s.heap [] _ hl hP va_S.rf
section XINS
variable {C : mX} {own : String} {cc : ByteArray} {nL : Nat} {Ts : List Cond} {rm : Room} {g : mG} {k : Nat × Nat} {pc : Nat} {lv : List (Nat × Value)} {st : List Value} {S S0 : Mem} {Post : Option Value → Mem → Prop} {PX : String → Mem → Prop}
theorem x_iret {ret : FieldType} {a : Int} (hC : mCtx C own cc nL Ts rm g) (hR : xRet C g S0 (some ret) Post PX rm) (hret : ret = .int ∨ (ret = .boolean ∧ (a = 0 ∨ a = 1))) (hd : decode cc pc = .ok (.ireturn, 1)) (hk : k.1 ≤ rm.cells ∧ k.2 ≤ rm.slots) (hp : Post (some (.int (z32 a))) S) : MW C g nL k pc lv [.int (z32 a)] S := by
  obtain ⟨p, l, e, R, s, m, args, below, meth, c, Q, A⟩ := C
  obtain ⟨h1, rfl, hA⟩ := hR
  intro H locs ls hl hP hS
  exact vx_ret (m_iret (C := (p, l, e, R, s, m, args, below, meth, c, MQ below (XQ g S0 s.heap.size Post) args s rm.cells rm.slots (va_A (mW g S0) s.heap.size), A)) hC ⟨h1, rfl, hA⟩ hret hd hk hp H locs ls hl hP hS)
theorem x_vret (hC : mCtx C own cc nL Ts rm g) (hR : xRet C g S0 none Post PX rm) (hd : decode cc pc = .ok (.return_, 1)) (hk : k.1 ≤ rm.cells ∧ k.2 ≤ rm.slots) (hp : Post none S) : MW C g nL k pc lv [] S := by
  obtain ⟨p, l, e, R, s, m, args, below, meth, c, Q, A⟩ := C
  obtain ⟨h1, rfl, hA⟩ := hR
  intro H locs ls hl hP hS
  exact vx_ret (m_vret (C := (p, l, e, R, s, m, args, below, meth, c, MQ below (XQ g S0 s.heap.size Post) args s rm.cells rm.slots (va_A (mW g S0) s.heap.size), A)) hC ⟨h1, rfl, hA⟩ hd hk hp H locs ls hl hP hS)
theorem x_throw {ret : Option FieldType} {cls text : String} {ik is ic : Nat} (hC : mCtx C RX4 cc nL Ts rm g) (hX : xCtx C) (hR : xRet C g S0 ret Post PX rm) (hcls : Bundle.fit cls = true)
    (hk0 : Cond.classLink RX4 ik cls ∈ Ts) (hini : Cond.initialized cls ∈ Ts) (hat : ∀ w ∈ (vx_atS RX4 ic cls ["java/lang/RuntimeException", "java/lang/Exception"]).filter goodWord, w ∈ Ts) (hbad : ∀ w ∈ (vx_atS RX4 ic cls ["java/lang/RuntimeException", "java/lang/Exception"]).filter (fun w => !goodWord w), w ∈ xBad) (htx : (is, text) ∈ xTx)
    (hgood : ∀ w ∈ Cond.classLink RX4 ik cls :: Cond.initialized cls :: vx_atS RX4 ic cls ["java/lang/RuntimeException", "java/lang/Exception"], vx_ot w = true)
    (d0 : decode cc pc = .ok (.new ik, 3)) (d3 : decode cc (pc + 3) = .ok (.dup, 1)) (d4 : decode cc (pc + 4) = .ok (.ldc is, 2)) (d6 : decode cc (pc + 6) = .ok (.invokespecial ic, 3)) (d9 : decode cc (pc + 9) = .ok (.athrow, 1))
    (hf : 5 < rm.frames) (hlo : (st.map fun v => v.category).sum + 82 ≤ rm.locals) (hk : k.1 + 1 ≤ rm.cells ∧ k.2 + 6 ≤ rm.slots) (hp : PX cls S) : MW C g nL k pc lv st S := by
  obtain ⟨p, l, e, R, s, m, args, below, meth, c, Q, A⟩ := C
  obtain ⟨hx, hb, hml, hown, hts, hK, hD, hA, hlk, hRR⟩ := hC
  obtain ⟨hfl, htab, hxk, hxz⟩ := hX
  obtain ⟨h1, rfl, hAA⟩ := hR
  intro H locs ls hl hP hS
  subst hRR
  obtain ⟨sa, hsa⟩ := hxk.2 _ htx
  have hat2 : ∀ w ∈ vx_atS RX4 ic cls ["java/lang/RuntimeException", "java/lang/Exception"], w.before args s = true := vx_hat (B := xBad) (fun w hw => hts w (hat w hw)) hbad (fun w hw => by
    have h1 := Cond.tabsOnly_warm (args' := args) (T := s) (State.WarmedH.refl s) w (xBad_tabs w hw) (hxk.1 w hw)
    rwa [show s.setVm s.vm = s from by cases s; rfl] at h1)
  refine vx_throwS hx hb hfl hown hcls (by decide +kernel) (hts _ hk0) (hts _ hini) hsa hat2 hgood hxz.1 hxz.2 hS (hl.1.trans hml.symm) d0 d3 d4 d6 d9 (fun x hx9 => (htab x hx9).elim) hf hlo hk.1 hk.2 hlk (fun t _ hz hq => ?_) (fun z hz => by rw [← hAA]; exact hS.2.2 z hz) hk.1 hk.2
  have hF : va_F A s t := ⟨Nat.le_trans hS.1 hz, fun q h1 h2 => (hq q (Nat.lt_of_lt_of_le h1 hS.1)).trans (hS.2.1 q h1 h2)⟩
  rw [hAA] at hF
  exact ⟨⟨S, hp, hP.kept (fun k q hk9 => hq _ (vx_lt hP hk9))⟩, hF⟩
end XINS
