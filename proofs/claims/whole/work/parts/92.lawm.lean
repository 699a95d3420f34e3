/-! ===== the law's own calls ===== -/
def lCtx (C : mX) : Prop := match C with
  | (p, l, e, R, s, m, args, below, meth, c, Q, A) => l.stackTraces = false ∧ xK s ∧ xZ A s s.heap
section LAWM
variable {C : mX} {own : String} {cc : ByteArray} {nL : Nat} {Ts : List Cond} {rm : Room} {g : mG} {k : Nat × Nat} {pc : Nat} {lv : List (Nat × Value)} {st : List Value} {S : Mem}
/-- a call of a wrapper, from whatever body -/
theorem m_callSW {y : MethodName} {ws ws' : List Cond} {rm' : Room} {index maxL n : Nat} {As rest : List Value} {Post : Option Value → Mem → Prop} {bytes : ByteArray} {ret : Option FieldType} {hh : List (Nat × Nat × Nat × Nat)}
    (hC : mCtx C own cc nL Ts rm g) (hX : lCtx C) (hM : ∀ l, DoesX l y ws rm' g As S Post (fun _ _ => False)) (hG : GoodIn Ts (va_wsS own index y ws)) (hw : ws = Cond.codeWith y bytes maxL ret hh :: ws') (hd : decode cc pc = .ok (.invokestatic index, 3))
    (hy : y.cls = own ∧ y.cls ≠ "java/lang/invoke/MethodHandle" ∧ y.cls ≠ "java/lang/invoke/VarHandle" ∧ (parseMethodDescriptor y.desc).map (fun d => d.parameters.length) = some n) (hR : rm'.frames + 1 ≤ rm.frames ∧ 8 + (maxL + 11) + rm'.locals ≤ rm.locals) (hn : As.length = n) (hst : (rest.map fun v => v.category).sum ≤ 8) (hk : k.1 + rm'.cells ≤ rm.cells ∧ k.2 + rm'.slots ≤ rm.slots) (hstk : st = As.reverse ++ rest)
    (kk : ∀ r S', Post r S' → MW C g nL (k.1 + rm'.cells, k.2 + rm'.slots) (pc + 3) lv (r.toList ++ rest) S') : MW C g nL k pc lv st S := by
  obtain ⟨p, l, e, R, s, m, args, below, meth, c, Q, A⟩ := C
  obtain ⟨hx, hb, hml, hown, hts, hK, hD, hA, hlk, hRR⟩ := hC
  obtain ⟨hfl, hxk, hxz⟩ := hX
  intro H locs ls hl hP hS
  subst hRR
  have hDS := mD_of S hD
  have hF := mA_free hDS hS hA
  have hr := vx_runSX (As := As) (rest := rest) (g := F0 m pc ls st) (locs := locs) (cells := k.1) (slots := k.2) (p := p) (l := l) (e := e) (below := below) (meth := meth) (hh := hh) ⟨hx, hb, hml, hown, hts⟩ (hM l hfl H.size) (vx_cwSW n hts hG hw rfl rfl hy.2 hR) ⟨m_blindX, fun U hU hW => ⟨rfl, by rw [hU], by rw [hU]; exact hP, va_K.moved hW.alike hK, hDS.weaken (fun _ _ _ _ => trivial), hxk.moved hW, by rw [hU]; exact hxz.moved hW.alike hS.2.1 hF⟩⟩ rfl hn hl.1 hstk (lv_room hst) hd hk
  intro T0 hT X
  rcases hr T0 hT X with ⟨v, st₀, t, T', L, h0, X', hL, e1, e2, ⟨⟨r, S', hv, hp, hb9⟩, hz, hk9⟩, st9⟩ | ⟨q, st₀, t, T', L, E, ce, h0, X', hL, e1, e2, ⟨⟨S', hp, hb9⟩, hz, hk9⟩, hce, hcv, hcl, st9⟩
  · rw [h0] at hz hk9
    have hS1 : va_S A s.heap T'.heap (locs ++ L) := ⟨Nat.le_trans hS.1 (by rw [e1]; exact hz), fun q h1 h2 => by rw [e1, hk9 q (Nat.lt_of_lt_of_le h1 hS.1) (fun z => h2 (hF q z))]; exact hS.2.1 q h1 h2, fun q hq => (List.mem_append.mp hq).elim (fun h => hS.2.2 q h) (fun h => hF _ (hL q h))⟩
    cases hv
    obtain ⟨t2, a1, b1⟩ := kk v S' hp T'.heap (locs ++ L) ls hl (by rw [e1]; exact hb9) hS1 T' rfl X'
    exact ⟨t2, st9 t2 a1, b1⟩
  · exact hp.elim
end LAWM
