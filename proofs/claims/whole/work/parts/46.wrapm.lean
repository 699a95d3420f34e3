/-! ===== the law's wrappers: calls that are caught ===== -/
def hCtx (C : mX) (hh : List (Nat × Nat × Nat × Nat)) : Prop := match C with
  | (p, l, e, R, s, m, args, below, meth, c, Q, A) => l.stackTraces = false ∧ c.exceptionTable.toList = tableOf hh ∧ xK s ∧ xZ A s s.heap
theorem DoesX.ofH {l : Launch} {y : MethodName} {ws ws' : List Cond} {rm : Room} {g : mG} {av : List Value} {S : Mem} {Post : Option Value → Mem → Prop} {PX : String → Mem → Prop} {cc : ByteArray} {maxL : Nat} {ret : Option FieldType} {hh : List (Nat × Nat × Nat × Nat)} {own : String} (hy : plainName y.cls = true) (hw : ws = Cond.codeWith y cc maxL ret hh :: ws') (hown : y.cls = own) (hav : (lg_sl av).length ≤ maxL)
    (body : ∀ C : mX, mCtx C own cc maxL ws rm g → hCtx C hh → xRet C g S ret Post PX rm → MW C g maxL (0, 0) 0 (lv_args 0 av) [] S) : DoesX l y ws rm g av S Post PX := by
  intro hfl sz
  refine vx_ofWH (cc := cc) (maxL := maxL) (ret := ret) (hh := hh) hy hw ?_
  intro p e s m args below meth c s₁ B hml hv
  obtain ⟨rfl, hsz, hP, hK, hD0, hxk, hxz⟩ := hv
  have hts := atoms_spec (ws := ws) B.pre
  have htab := vx_table (x := y) B (hts (Cond.codeWith y cc maxL ret hh) (by rw [hw]; exact List.mem_cons_self))
  have hown' : s.vm.findClass own = some m.cls := hown ▸ findClass_of_methodNamed B.named
  subst hsz
  have hD := hD0.self (sz := s.heap.size)
  rw [lg_entry_eq]
  have hl := lv_entry av (n := maxL) hav
  exact body (p, l, e, (headSpec ws rm).room, s, m, av.toArray, below, meth, c, _, va_A (mW g S) s.heap.size) ⟨B.exec, B.bytes, hml, hown', hts, hK, mD_of _ hD, fun q h => Or.inr h, B.notSynchronized, rfl⟩ ⟨hfl, htab, hxk, hxz⟩ ⟨B.returns, rfl, rfl⟩ s.heap [] _ hl hP va_S.rf
/-- the handler at hpc takes what is thrown as E at pc -/
def Hnd (hh : List (Nat × Nat × Nat × Nat)) (Ts : List Cond) (own : String) (pc : Nat) (E : String) (hpc : Nat) : Prop := ∃ (pre : List (Nat × Nat × Nat × Nat)) (x : Nat × Nat × Nat × Nat) (suf : List (Nat × Nat × Nat × Nat)), hh = pre ++ x :: suf ∧ (∀ z ∈ pre, z.2.2.2 ≠ 0 ∧ ∃ nm, Cond.classLink own z.2.2.2 nm ∈ Ts ∧ (E, nm) ∈ xNp) ∧ covers ⟨x.1, x.2.1, x.2.2.1, x.2.2.2⟩ pc = true ∧ x.2.2.2 ≠ 0 ∧ Cond.classLink own x.2.2.2 E ∈ Ts ∧ x.2.2.1 = hpc ∧ Cond.castable E E ∈ xBad
section WRAP
variable {C : mX} {own : String} {cc : ByteArray} {nL : Nat} {Ts : List Cond} {rm : Room} {g : mG} {k : Nat × Nat} {pc : Nat} {lv : List (Nat × Value)} {st : List Value} {S S0 : Mem} {hh : List (Nat × Nat × Nat × Nat)}
theorem x_caught {E : String} {hpc : Nat} {p : Program} {l : Launch} {e : Env} {R : Room} {s : State} {m : MethodId} {args : Array Value} {below : List Frame} {meth : Method} {c : Code} {Q : State → Prop} {H : Heap} {locs : List Loc} {ls : Array Slot} {cells slots : Nat} {rest : List Value} {q : Nat} {ce : Cell}
    (hown : s.vm.findClass own = some m.cls) (hts : ∀ w ∈ Ts, w.before args s = true) (htab : c.exceptionTable.toList = tableOf hh) (hxk : xK s) (h : Hnd hh Ts own pc E hpc) (hcell : H[q]? = some ce) (hv : ce.vm = .none) (hcl : s.vm.findClass E = some ce.cls)
    (kk : W p l e R s m args below meth c H locs cells slots Q (F0 m hpc ls [.ref q])) : vx_W p l e R s m args below meth c H locs cells slots Q (F0 m pc ls rest) q := by
  obtain ⟨pre, x, suf, rfl, h1, h2, h3, h4, rfl, h5⟩ := h
  have hca : (Cond.castable E E).before args s = true := by
    have h1 := Cond.tabsOnly_warm (args' := args) (T := s) (State.WarmedH.refl s) _ (xBad_tabs _ h5) (hxk.1 _ h5)
    rwa [show s.setVm s.vm = s from by cases s; rfl] at h1
  refine vx_catch (name := E) (ce := ce) hown (tableOf pre) ⟨x.1, x.2.1, x.2.2.1, x.2.2.2⟩ (tableOf suf) (by rw [htab]; simp [tableOf]) (fun z hz => ?_) h2 h3 (hts _ h4) hca hcell hv hcl kk
  unfold tableOf at hz
  obtain ⟨z0, hz0, rfl⟩ := List.mem_map.mp hz
  obtain ⟨a, nm, b, c9⟩ := h1 z0 hz0
  exact Or.inr ⟨a, nm, hts _ b, hxk.2.2 _ c9⟩
theorem x_callC {y : MethodName} {ws ws' : List Cond} {rm' : Room} {index maxL n o ci N : Nat} {As rest : List Value} {Post1 : Option Value → Mem → Prop} {PX1 : String → Mem → Prop} {bytes : ByteArray} {ret1 : Option FieldType} {CN : String} {T : u_T} {fs : List mF}
    (hC : mCtx C own cc nL Ts rm g) (hX : hCtx C hh) (hM : ∀ l, DoesX l y ws rm' g (.ref (g.2.2 o) :: As) S Post1 PX1) (hG : GoodIn Ts (wsV own index CN y ws)) (hw : ws = Cond.code y bytes maxL ret1 :: ws') (hd : decode cc pc = .ok (.invokevirtual index, 3))
    (ho : gds[o]? = some (.inl (ci, fs))) (hc : vwCl[ci]? = some (CN, T, N))
    (hy : y.cls = CN ∧ y.cls ≠ "java/lang/invoke/MethodHandle" ∧ y.cls ≠ "java/lang/invoke/VarHandle" ∧ (parseMethodDescriptor y.desc).map (fun d => d.parameters.length) = some n) (hR : rm'.frames + 1 ≤ rm.frames ∧ 8 + (maxL + 11) + rm'.locals ≤ rm.locals) (hn : As.length = n) (hst : (rest.map fun v => v.category).sum ≤ 8) (hk : k.1 + rm'.cells ≤ rm.cells ∧ k.2 + rm'.slots ≤ rm.slots) (hstk : st = As.reverse ++ .ref (g.2.2 o) :: rest)
    (kx : ∀ E S', PX1 E S' → ∃ hpc, Hnd hh Ts own pc E hpc ∧ ∀ q : Nat, MW C g nL (k.1 + rm'.cells, k.2 + rm'.slots) hpc lv [.ref q] S')
    (kk : ∀ r S', Post1 r S' → MW C g nL (k.1 + rm'.cells, k.2 + rm'.slots) (pc + 3) lv (r.toList ++ rest) S') : MW C g nL k pc lv st S := by
  obtain ⟨p, l, e, R, s, m, args, below, meth, c, Q, A⟩ := C
  obtain ⟨hx, hb, hml, hown, hts, hK, hD, hA, hlk, hRR⟩ := hC
  obtain ⟨hfl, htab, hxk, hxz⟩ := hX
  intro H locs ls hl hP hS
  subst hRR
  have hDS := mD_of S hD
  have hF := mA_free hDS hS hA
  have hr := vx_runV (As := As) (rest := rest) (b := g.2.2 o) (g := F0 m pc ls st) (locs := locs) (cells := k.1) (slots := k.2) (p := p) (l := l) (e := e) (below := below) (meth := meth) ⟨hx, hb, hml, hown, hts⟩ (hM l hfl H.size) (cwV n hts hG hw rfl rfl hy hR) ⟨m_blindX, va_recv hK hP hc (mW_at g S ho), fun U hU hW => ⟨rfl, by rw [hU], by rw [hU]; exact hP, va_K.moved hW.alike hK, hDS.weaken (fun _ _ _ _ => trivial), hxk.moved hW, by rw [hU]; exact hxz.moved hW.alike hS.2.1 hF⟩⟩ rfl hn hl.1 hstk (lv_room hst) hd hk
  intro T0 hT X
  rcases hr T0 hT X with ⟨v, st₀, t, T', L, h0, X', hL, e1, e2, ⟨⟨r, S', hv, hp, hb9⟩, hz, hk9⟩, st9⟩ | ⟨q, st₀, t, T', L, E, ce, h0, X', hL, e1, e2, ⟨⟨S', hp, hb9⟩, hz, hk9⟩, hce, hcv, hcl, st9⟩
  all_goals rw [h0] at hz hk9
  all_goals have hS1 : va_S A s.heap T'.heap (locs ++ L) := ⟨Nat.le_trans hS.1 (by rw [e1]; exact hz), fun q h1 h2 => by rw [e1, hk9 q (Nat.lt_of_lt_of_le h1 hS.1) (fun z => h2 (hF q z))]; exact hS.2.1 q h1 h2, fun q hq => (List.mem_append.mp hq).elim (fun h => hS.2.2 q h) (fun h => hF _ (hL q h))⟩
  · cases hv
    obtain ⟨t2, a1, b1⟩ := kk v S' hp T'.heap (locs ++ L) ls hl (by rw [e1]; exact hb9) hS1 T' rfl X'
    exact ⟨t2, st9 t2 a1, b1⟩
  · obtain ⟨hpc, hH, hM9⟩ := kx E S' hp
    obtain ⟨t2, a1, b1⟩ := x_caught (rest := rest) hown hts htab hxk hH (by rw [e1]; exact hce) hcv hcl (hM9 q T'.heap (locs ++ L) ls hl (by rw [e1]; exact hb9) hS1) T' rfl X'
    exact ⟨t2, st9.trans a1, b1⟩
end WRAP
/-- what a wrapper answers: 0 and the value laid out, or which exception it caught -/
def WP (tr : Int → Int) (S : Mem) (cd val : Int) (st : Mem) : Option Value → Mem → Prop := PIx (fun v S' => (cd = 0 → v = 0 ∧ S' = mset st 32 0 val) ∧ (cd ≠ 0 → v = tr cd ∧ S' = S))
def WPx (tr : Int → Int) (S : Mem) (cd : Int) (P : Int → Mem → Prop) : Option Value → Mem → Prop := PIx (fun v S' => (cd = 0 → v = 0 ∧ ∃ v1 S1, P v1 S1 ∧ S' = mset S1 32 0 v1) ∧ (cd ≠ 0 → v = tr cd ∧ S' = S))
theorem sq_ne {a b k : Int} (ha : a ≠ k) (hb : b ≠ k) : sq a b ≠ k := by
  unfold sq
  split
  · exact hb
  · exact ha
