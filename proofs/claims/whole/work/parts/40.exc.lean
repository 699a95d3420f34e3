/-! ===== exceptions that leave the class's methods, in whole numbers ===== -/
def xISE : String := "java/lang/IllegalStateException"
def xIOB : String := "java/lang/IndexOutOfBoundsException"
def xIAE : String := "java/lang/IllegalArgumentException"
def xSup : List String := ["java/lang/RuntimeException", "java/lang/Exception"]
def xBad : List Cond := (vx_atS RX4 59 xISE ["java/lang/RuntimeException", "java/lang/Exception"] ++ vx_atS RX4 198 xIOB ["java/lang/RuntimeException", "java/lang/Exception"] ++ vx_atS RX4 216 xIAE ["java/lang/RuntimeException", "java/lang/Exception"]).filter (fun w => !goodWord w)
def xTx : List (Nat × String) := [(102, "there are 100 trades"), (124, "the trade can't be disputed"), (140, "the trade is not disputed"), (148, "the guarantee would be above 1000"), (153, "less than that is guaranteed"), (196, "there is no such ring"), (203, "there is no such shop"), (205, "there was no such shop"), (210, "there is no such trade"), (214, "a number is out of range"), (217, "both shops are the same"), (219, "the balance and the limit are too low"), (57, "there were 8 shops"), (70, "a trade of the shop is disputed")]
/-- what a throw needs of the tables -/
def xNp : List (String × String) := [(xISE, xIOB), (xIAE, xIOB), (xISE, xIAE)]
def xK (U : State) : Prop := (∀ w ∈ xBad, w.before #[] U = true) ∧ (∀ q ∈ xTx, ∃ sa : Nat, vk_R RX4 q.1 q.2 sa U) ∧ ∀ q ∈ xNp, va_Nc q.1 q.2 U
/-- what a throw needs of the heap -/
def xZ (A : Nat → Prop) (U : State) (H : Heap) : Prop := vx_Zq Bundle.tN "UNASSIGNED_STACK" Bundle.steD A U H ∧ vx_Zq Bundle.tN "SUPPRESSED_SENTINEL" Bundle.listD A U H
theorem xBad_tabs : ∀ w ∈ xBad, Cond.tabsOnly w = true := by decide +kernel
theorem xK.moved {s U : State} (hW : s.WarmedH U.vm) (h : xK s) : xK U := by
  refine ⟨fun w hw => ?_, fun q hq => ?_, fun q hq => va_Nc.moved hW.alike (h.2.2 q hq)⟩
  · have h1 := Cond.tabsOnly_warm (args' := #[]) (T := U) hW w (xBad_tabs w hw) (h.1 w hw)
    rwa [show U.setVm U.vm = U from by cases U; rfl] at h1
  · obtain ⟨sa, h1⟩ := h.2.1 q hq
    exact ⟨sa, vk_R.warm hW h1⟩
theorem xZ.moved {A B : Nat → Prop} {u U : State} {H H1 : Heap} (hvm : u.vm.Alike U.vm) (hq : ∀ a : Nat, a < H.size → ¬ A a → H1[a]? = H[a]?) (hAB : ∀ q, B q → A q) (h : xZ A u H) : xZ B U H1 := ⟨vx_Zq.narrow (vx_Zq.moved hvm (h.1.kept hq)) hAB, vx_Zq.narrow (vx_Zq.moved hvm (h.2.kept hq)) hAB⟩
def XPc (g : mG) (av : List Value) (S : Mem) (sz : Nat) : Array Value → State → Prop := va_Pc av (fun U => U.heap.size = sz ∧ va_P g.1 vwCl (mW g S) U.heap ∧ va_K g.1 vwCl (mTys g) U ∧ va_D (fun _ => True) (mW g S) ∧ xK U ∧ xZ (va_A (mW g S) sz) U U.heap)
def XQ (g : mG) (S : Mem) (sz : Nat) (Post : Option Value → Mem → Prop) : Array Value → State → Outcome → State → Prop := fun _ st oc t => (∃ (r : Option Value) (S' : Mem), oc = .returned r ∧ Post r S' ∧ va_P g.1 vwCl (mW g S') t.heap) ∧ va_F (va_A (mW g S) sz) st t
def XX (g : mG) (S : Mem) (sz : Nat) (PX : String → Mem → Prop) : String → State → State → Prop := fun E st t => (∃ S' : Mem, PX E S' ∧ va_P g.1 vwCl (mW g S') t.heap) ∧ va_F (va_A (mW g S) sz) st t
/-- a method's contract: it returns, as Post says, or throws, as PX says -/
def DoesX (l : Launch) (y : MethodName) (ws : List Cond) (rm : Room) (g : mG) (av : List Value) (S : Mem) (Post : Option Value → Mem → Prop) (PX : String → Mem → Prop) : Prop :=
  l.stackTraces = false → ∀ sz : Nat, vx_Met l y ws rm (XPc g av S sz) (XQ g S sz Post) (XX g S sz PX) rm.cells rm.slots (va_A (mW g S) sz)
def xCtx (C : mX) : Prop := match C with
  | (p, l, e, R, s, m, args, below, meth, c, Q, A) => l.stackTraces = false ∧ (∀ x ∈ c.exceptionTable.toList, False) ∧ xK s ∧ xZ A s s.heap
def xRet (C : mX) (g : mG) (S0 : Mem) (ret : Option FieldType) (Post : Option Value → Mem → Prop) (PX : String → Mem → Prop) (rm : Room) : Prop := match C with
  | (p, l, e, R, s, m, args, below, meth, c, Q, A) => meth.sig.returnType = ret ∧ Q = vx_MQ below (XQ g S0 s.heap.size Post) (XX g S0 s.heap.size PX) args s rm.cells rm.slots (va_A (mW g S0) s.heap.size) ∧ A = va_A (mW g S0) s.heap.size
theorem DoesX.of {l : Launch} {y : MethodName} {ws ws' : List Cond} {rm : Room} {g : mG} {av : List Value} {S : Mem} {Post : Option Value → Mem → Prop} {PX : String → Mem → Prop} {cc : ByteArray} {maxL : Nat} {ret : Option FieldType} {own : String} (hy : plainName y.cls = true) (hw : ws = Cond.code y cc maxL ret :: ws') (hown : y.cls = own) (hav : (lg_sl av).length ≤ maxL)
    (body : ∀ C : mX, mCtx C own cc maxL ws rm g → xCtx C → xRet C g S ret Post PX rm → MW C g maxL (0, 0) 0 (lv_args 0 av) [] S) : DoesX l y ws rm g av S Post PX := by
  intro hfl sz
  refine vx_ofW (cc := cc) (maxL := maxL) (ret := ret) hy hw ?_
  intro p e s m args below meth c s₁ B hml htab hv
  obtain ⟨rfl, hsz, hP, hK, hD0, hxk, hxz⟩ := hv
  have hts := atoms_spec (ws := ws) B.pre
  have hown' : s.vm.findClass own = some m.cls := hown ▸ findClass_of_methodNamed B.named
  subst hsz
  have hD := hD0.self (sz := s.heap.size)
  rw [lg_entry_eq]
  have hl := lv_entry av (n := maxL) hav
  exact body (p, l, e, (headSpec ws rm).room, s, m, av.toArray, below, meth, c, _, va_A (mW g S) s.heap.size) ⟨B.exec, B.bytes, hml, hown', hts, hK, mD_of _ hD, fun q h => Or.inr h, B.notSynchronized, rfl⟩ ⟨hfl, htab, hxk, hxz⟩ ⟨B.returns, rfl, rfl⟩ s.heap [] _ hl hP va_S.rf
section XINS
variable {C : mX} {own : String} {cc : ByteArray} {nL : Nat} {Ts : List Cond} {rm : Room} {g : mG} {k : Nat × Nat} {pc : Nat} {lv : List (Nat × Value)} {st : List Value} {S S0 : Mem} {Post : Option Value → Mem → Prop} {PX : String → Mem → Prop}
theorem x_iret {ret : FieldType} {a : Int} (hC : mCtx C own cc nL Ts rm g) (hR : xRet C g S0 (some ret) Post PX rm) (hret : ret = .int ∨ (ret = .boolean ∧ (a = 0 ∨ a = 1))) (hd : decode cc pc = .ok (.ireturn, 1)) (hk : k.1 ≤ rm.cells ∧ k.2 ≤ rm.slots) (hp : Post (some (.int (z32 a))) S) : MW C g nL k pc lv [.int (z32 a)] S := by
  obtain ⟨p, l, e, R, s, m, args, below, meth, c, Q, A⟩ := C
  obtain ⟨h1, rfl, hA⟩ := hR
  intro H locs ls hl hP hS
  exact vx_ret (m_iret (C := (p, l, e, R, s, m, args, below, meth, c, MQ below (XQ g S0 s.heap.size Post) args s rm.cells rm.slots (va_A (mW g S0) s.heap.size), A)) hC ⟨h1, rfl, hA⟩ hret hd hk hp H locs ls hl hP hS)
theorem x_vret (hC : mCtx C own cc nL Ts rm g) (hR : xRet C g S0 none Post PX rm) (hd : decode cc pc = .ok (.return_, 1)) (hk : k.1 ≤ rm.cells ∧ k.2 ≤ rm.slots) (hp : Post none S) : MW C g nL k pc lv [] S := by
  obtain ⟨p, l, e, R, s, m, args, below, meth, c, Q, A⟩ := C
  obtain ⟨h1, rfl, hA⟩ := hR
  intro H locs ls hl hP hS
  exact vx_ret (m_vret (C := (p, l, e, R, s, m, args, below, meth, c, MQ below (XQ g S0 s.heap.size Post) args s rm.cells rm.slots (va_A (mW g S0) s.heap.size), A)) hC ⟨h1, rfl, hA⟩ hd hk hp H locs ls hl hP hS)
theorem x_throw {ret : Option FieldType} {cls text : String} {ik is ic : Nat} (hC : mCtx C RX4 cc nL Ts rm g) (hX : xCtx C) (hR : xRet C g S0 ret Post PX rm) (hcls : Bundle.fit cls = true)
    (hk0 : Cond.classLink RX4 ik cls ∈ Ts) (hini : Cond.initialized cls ∈ Ts) (hat : ∀ w ∈ (vx_atS RX4 ic cls ["java/lang/RuntimeException", "java/lang/Exception"]).filter goodWord, w ∈ Ts) (hbad : ∀ w ∈ (vx_atS RX4 ic cls ["java/lang/RuntimeException", "java/lang/Exception"]).filter (fun w => !goodWord w), w ∈ xBad) (htx : (is, text) ∈ xTx)
    (hgood : ∀ w ∈ Cond.classLink RX4 ik cls :: Cond.initialized cls :: vx_atS RX4 ic cls ["java/lang/RuntimeException", "java/lang/Exception"], vx_ot w = true)
    (d0 : decode cc pc = .ok (.new ik, 3)) (d3 : decode cc (pc + 3) = .ok (.dup, 1)) (d4 : decode cc (pc + 4) = .ok (.ldc is, 2)) (d6 : decode cc (pc + 6) = .ok (.invokespecial ic, 3)) (d9 : decode cc (pc + 9) = .ok (.athrow, 1))
    (hf : 5 < rm.frames) (hlo : (st.map fun v => v.category).sum + 82 ≤ rm.locals) (hk : k.1 + 1 ≤ rm.cells ∧ k.2 + 6 ≤ rm.slots) (hp : PX cls S) : MW C g nL k pc lv st S := by
  obtain ⟨p, l, e, R, s, m, args, below, meth, c, Q, A⟩ := C
  obtain ⟨hx, hb, hml, hown, hts, hK, hD, hA, hlk, hRR⟩ := hC
  obtain ⟨hfl, htab, hxk, hxz⟩ := hX
  obtain ⟨h1, rfl, hAA⟩ := hR
  intro H locs ls hl hP hS
  subst hRR
  obtain ⟨sa, hsa⟩ := hxk.2.1 _ htx
  have hat2 : ∀ w ∈ vx_atS RX4 ic cls ["java/lang/RuntimeException", "java/lang/Exception"], w.before args s = true := vx_hat (B := xBad) (fun w hw => hts w (hat w hw)) hbad (fun w hw => by
    have h1 := Cond.tabsOnly_warm (args' := args) (T := s) (State.WarmedH.refl s) w (xBad_tabs w hw) (hxk.1 w hw)
    rwa [show s.setVm s.vm = s from by cases s; rfl] at h1)
  refine vx_throwS hx hb hfl hown hcls (by decide +kernel) (hts _ hk0) (hts _ hini) hsa hat2 hgood hxz.1 hxz.2 hS (hl.1.trans hml.symm) d0 d3 d4 d6 d9 (fun x hx9 => (htab x hx9).elim) hf hlo hk.1 hk.2 hlk (fun t _ hz hq => ?_) (fun z hz => by rw [← hAA]; exact hS.2.2 z hz) hk.1 hk.2
  have hF : va_F A s t := ⟨Nat.le_trans hS.1 hz, fun q h1 h2 => (hq q (Nat.lt_of_lt_of_le h1 hS.1)).trans (hS.2.1 q h1 h2)⟩
  rw [hAA] at hF
  exact ⟨⟨S, hp, hP.kept (fun k q hk9 => hq _ (vx_lt hP hk9))⟩, hF⟩
theorem m_blindX {av : List Value} {sz : Nat} : FrameBlind (XPc g av S sz) := fun a U gg mk q => by
  obtain ⟨q0, q1, qP, qK, qD, qx, qz⟩ := q
  exact ⟨q0, q1, qP, va_K.moved (u := U) (U := U.calling gg mk a) (Vm.Alike.refl U.vm) qK, qD, xK.moved (s := U) (U := U.calling gg mk a) (State.WarmedH.refl U) qx, xZ.moved (u := U) (U := U.calling gg mk a) (Vm.Alike.refl U.vm) (fun _ _ _ => rfl) (fun _ h => h) qz⟩
theorem x_after {mc ms : Nat} {As : Array Value} {rest st0 : List Value} {Post1 : Option Value → Mem → Prop} {PX1 : String → Mem → Prop} {p : Program} {l : Launch} {e : Env} {R : Room} {s : State} {m : MethodId} {args : Array Value} {below : List Frame} {meth : Method} {c : Code} {A : Nat → Prop} {H : Heap} {locs : List Loc} {ls : Array Slot} {cells slots : Nat} {mc0 ms0 : Nat}
    (hD : va_D A (mW g S)) (hA : ∀ q, s.heap.size ≤ q → A q) (hS : va_S A s.heap H locs) (hAA : A = va_A (mW g S0) s.heap.size) (htab : ∀ x ∈ c.exceptionTable.toList, False) (hlk : meth.locks = false)
    (hr : vx_Run p l e R s m args below meth c H locs cells slots mc ms (F0 m pc ls st0) rest (XQ g S H.size Post1 As) (XX g S H.size PX1) (va_A (mW g S) H.size)) (hk : cells + mc ≤ mc0 ∧ slots + ms ≤ ms0) (kx : ∀ E S', PX1 E S' → PX E S')
    (kk : ∀ (r : Option Value) (S' : Mem) (H1 : Heap) (locs1 : List Loc), Post1 r S' → va_P g.1 vwCl (mW g S') H1 → va_S A s.heap H1 locs1 → W p l e R s m args below meth c H1 locs1 (cells + mc) (slots + ms) (vx_MQ below (XQ g S0 s.heap.size Post) (XX g S0 s.heap.size PX) args s mc0 ms0 (va_A (mW g S0) s.heap.size)) (F0 m (pc + 3) ls (r.toList ++ rest))) :
    W p l e R s m args below meth c H locs cells slots (vx_MQ below (XQ g S0 s.heap.size Post) (XX g S0 s.heap.size PX) args s mc0 ms0 (va_A (mW g S0) s.heap.size)) (F0 m pc ls st0) := by
  intro T hT X
  have hF := mA_free hD hS hA
  rcases hr T hT X with ⟨v, st₀, t, T', L, h0, X', hL, e1, e2, ⟨⟨r, S', hv, hp, hb⟩, hz, hk9⟩, st⟩ | ⟨q, st₀, t, T', L, E, ce, h0, X', hL, e1, e2, ⟨⟨S', hp, hb⟩, hz, hk9⟩, hce, hcv, hcl, st⟩
  all_goals rw [h0] at hz hk9
  all_goals have hS1 : va_S A s.heap T'.heap (locs ++ L) := ⟨Nat.le_trans hS.1 (by rw [e1]; exact hz), fun q h1 h2 => by rw [e1, hk9 q (Nat.lt_of_lt_of_le h1 hS.1) (fun z => h2 (hF q z))]; exact hS.2.1 q h1 h2, fun q hq => (List.mem_append.mp hq).elim (fun h => hS.2.2 q h) (fun h => hF _ (hL q h))⟩
  · cases hv
    obtain ⟨t2, a1, b1⟩ := kk v S' T'.heap (locs ++ L) hp (by rw [e1]; exact hb) hS1 T' rfl X'
    exact ⟨t2, st t2 a1, b1⟩
  · obtain ⟨t2, a1, b1⟩ := vx_out (p := p) (l := l) (e := e) (R := R) (s := s) (m := m) (args := args) (below := below) (meth := meth) (c := c) (H := T'.heap) (locs := locs ++ L) (cells := cells + mc) (slots := slots + ms) (pc := pc) (ls := ls) (rest := rest) (Qc := XQ g S0 s.heap.size Post) (XC := XX g S0 s.heap.size PX) (free := va_A (mW g S0) s.heap.size) (mc := mc0) (ms := ms0) (E := E) (ce := ce) (q := q) (fun x hx9 => (htab x hx9).elim) hlk (by rw [e1]; exact hce) hcv hcl
      (fun t9 ht9 _ => ⟨⟨S', kx E S' hp, by rw [ht9, e1]; exact hb⟩, hAA ▸ hS1.F ht9⟩) (fun z hz9 => hAA ▸ hS1.2.2 z hz9) hk.1 hk.2 T' rfl X'
    exact ⟨t2, st.trans a1, b1⟩
theorem x_callV {y : MethodName} {ws ws' : List Cond} {rm' : Room} {index maxL n o ci N : Nat} {As rest : List Value} {Post1 : Option Value → Mem → Prop} {PX1 : String → Mem → Prop} {bytes : ByteArray} {ret ret1 : Option FieldType} {CN : String} {T : u_T} {fs : List mF}
    (hC : mCtx C own cc nL Ts rm g) (hX : xCtx C) (hR0 : xRet C g S0 ret Post PX rm) (hM : ∀ l, DoesX l y ws rm' g (.ref (g.2.2 o) :: As) S Post1 PX1) (hG : GoodIn Ts (wsV own index CN y ws)) (hw : ws = Cond.code y bytes maxL ret1 :: ws') (hd : decode cc pc = .ok (.invokevirtual index, 3))
    (ho : gds[o]? = some (.inl (ci, fs))) (hc : vwCl[ci]? = some (CN, T, N))
    (hy : y.cls = CN ∧ y.cls ≠ "java/lang/invoke/MethodHandle" ∧ y.cls ≠ "java/lang/invoke/VarHandle" ∧ (parseMethodDescriptor y.desc).map (fun d => d.parameters.length) = some n) (hR : rm'.frames + 1 ≤ rm.frames ∧ 8 + (maxL + 11) + rm'.locals ≤ rm.locals) (hn : As.length = n) (hst : (rest.map fun v => v.category).sum ≤ 8) (hk : k.1 + rm'.cells ≤ rm.cells ∧ k.2 + rm'.slots ≤ rm.slots) (hstk : st = As.reverse ++ .ref (g.2.2 o) :: rest) (kx : ∀ E S', PX1 E S' → PX E S')
    (kk : ∀ r S', Post1 r S' → MW C g nL (k.1 + rm'.cells, k.2 + rm'.slots) (pc + 3) lv (r.toList ++ rest) S') : MW C g nL k pc lv st S := by
  obtain ⟨p, l, e, R, s, m, args, below, meth, c, Q, A⟩ := C
  obtain ⟨hx, hb, hml, hown, hts, hK, hD, hA, hlk, hRR⟩ := hC
  obtain ⟨hfl, htab, hxk, hxz⟩ := hX
  obtain ⟨h1, rfl, hAA⟩ := hR0
  intro H locs ls hl hP hS
  subst hRR
  refine x_after (As := (Value.ref (g.2.2 o) :: As).toArray) (mD_of S hD) hA hS hAA htab hlk (vx_runV (As := As) (rest := rest) ⟨hx, hb, hml, hown, hts⟩ (hM l hfl H.size) (cwV n hts hG hw rfl rfl hy hR) ⟨m_blindX, va_recv hK hP hc (mW_at g S ho), fun U hU hW => ⟨rfl, by rw [hU], by rw [hU]; exact hP, va_K.moved hW.alike hK, (mD_of S hD).weaken (fun _ _ _ _ => trivial), hxk.moved hW, by rw [hU]; exact hxz.moved hW.alike hS.2.1 (mA_free (mD_of S hD) hS hA)⟩⟩ rfl hn hl.1 hstk (lv_room hst) hd hk) hk kx (fun r S' H1 locs1 hp hP1 hS1 => ?_)
  exact kk r S' hp H1 locs1 ls hl hP1 hS1
theorem x_callS {y : MethodName} {ws ws' : List Cond} {rm' : Room} {index maxL n : Nat} {As rest : List Value} {Post1 : Option Value → Mem → Prop} {PX1 : String → Mem → Prop} {bytes : ByteArray} {ret ret1 : Option FieldType}
    (hC : mCtx C own cc nL Ts rm g) (hX : xCtx C) (hR0 : xRet C g S0 ret Post PX rm) (hM : ∀ l, DoesX l y ws rm' g As S Post1 PX1) (hG : GoodIn Ts (va_wsS own index y ws)) (hw : ws = Cond.code y bytes maxL ret1 :: ws') (hd : decode cc pc = .ok (.invokestatic index, 3))
    (hy : y.cls = own ∧ y.cls ≠ "java/lang/invoke/MethodHandle" ∧ y.cls ≠ "java/lang/invoke/VarHandle" ∧ (parseMethodDescriptor y.desc).map (fun d => d.parameters.length) = some n) (hR : rm'.frames + 1 ≤ rm.frames ∧ 8 + (maxL + 11) + rm'.locals ≤ rm.locals) (hn : As.length = n) (hst : (rest.map fun v => v.category).sum ≤ 8) (hk : k.1 + rm'.cells ≤ rm.cells ∧ k.2 + rm'.slots ≤ rm.slots) (hstk : st = As.reverse ++ rest) (kx : ∀ E S', PX1 E S' → PX E S')
    (kk : ∀ r S', Post1 r S' → MW C g nL (k.1 + rm'.cells, k.2 + rm'.slots) (pc + 3) lv (r.toList ++ rest) S') : MW C g nL k pc lv st S := by
  obtain ⟨p, l, e, R, s, m, args, below, meth, c, Q, A⟩ := C
  obtain ⟨hx, hb, hml, hown, hts, hK, hD, hA, hlk, hRR⟩ := hC
  obtain ⟨hfl, htab, hxk, hxz⟩ := hX
  obtain ⟨h1, rfl, hAA⟩ := hR0
  intro H locs ls hl hP hS
  subst hRR
  have hG' : GoodIn Ts (wsS own index y ws) := by
    have h1 := hy.1
    intro w hw
    refine hG w ?_
    unfold wsS at hw
    unfold va_wsS
    rw [h1]
    exact hw
  refine x_after (As := As.toArray) (mD_of S hD) hA hS hAA htab hlk (vx_runS (As := As) (rest := rest) ⟨hx, hb, hml, hown, hts⟩ (hM l hfl H.size) (cwS n hts hG' hw rfl rfl hy hR) ⟨m_blindX, fun U hU hW => ⟨rfl, by rw [hU], by rw [hU]; exact hP, va_K.moved hW.alike hK, (mD_of S hD).weaken (fun _ _ _ _ => trivial), hxk.moved hW, by rw [hU]; exact hxz.moved hW.alike hS.2.1 (mA_free (mD_of S hD) hS hA)⟩⟩ rfl hn hl.1 hstk (lv_room hst) hd hk) hk kx (fun r S' H1 locs1 hp hP1 hS1 => ?_)
  exact kk r S' hp H1 locs1 ls hl hP1 hS1
end XINS
