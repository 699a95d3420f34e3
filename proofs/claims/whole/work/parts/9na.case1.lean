/-! ===== the law's cases: calls that change something ===== -/
set_option maxHeartbeats 4000000 in
set_option maxRecDepth 100000 in
theorem law_join {C : mX} {g : mG} {b L : Nat} {xs : Nat → Int32} {i : Int} {S : Mem} {k : Nat × Nat} (hC : mCtx C RL cL_law 7 wsL_law room_1 g) (hX : lCtx C) (hs : sCtx C b L xs) (hi : 0 ≤ i ∧ i + 4 ≤ (L : Int)) (hL : L ≤ 2048) (h : Iv S) (ht : S 18 14 + 20 ≤ 20000) (hk : k.1 + 5 ≤ room_1.cells ∧ k.2 + 30 ≤ room_1.slots) (kk : ∀ (S2 : Mem) (k2 : Nat × Nat), Iv S2 → S2 18 14 ≤ S 18 14 + 20 → k2.1 ≤ k.1 + 5 ∧ k2.2 ≤ k.2 + 30 → MW C g 7 k2 1364 [(0, .ref b), (1, .ref (g.2.2 0)), (2, .ref (g.2.2 18)), (3, .ref (g.2.2 32)), (4, .int (z32 i))] [] S2) : MW C g 7 k 132 [(0, .ref b), (1, .ref (g.2.2 0)), (2, .ref (g.2.2 18)), (3, .ref (g.2.2 32)), (4, .int (z32 i))] [] S := by
  have hg := Iv_rg h
  have hok := Iv_okC h
  have hfz := Iv_fzC h
  have hgu := Iv_guC h
  have hlr := Iv_lim h
  have hrw := Iv_rw8 h
  refine m_aload_n hC dL_law_132 1 rfl ?_
  refine m_aload_n hC dL_law_133 3 rfl ?_
  refine m_callLi (n := 2) (P := WPq S (cxJoin S) (S 0 6) (trOne (cxJoin S)) (mset S 0 6 (S 0 6 + 1))) hC hX (c_L_join hg (hv_join h)) gL_law_L_join rfl dL_law_134 (by decide +kernel) ⟨(Nat.le_of_ble_eq_true rfl), (Nat.le_of_ble_eq_true rfl)⟩ rfl (Nat.le_of_ble_eq_true rfl) ⟨(Nat.le_of_ble_eq_true rfl), (Nat.le_of_ble_eq_true rfl)⟩ hk rfl (fun r S1 k1 hw hk1 => ?_)
  have hu := up_gen (fun o ho => mset_o (by omega)) hw
  have hM : Iv (mg S S1) := up_M h hu
  refine m_istore hC dL_law_137 (fun z9 => [(5, .int (z32 z9)), (0, .ref b), (1, .ref (g.2.2 0)), (2, .ref (g.2.2 18)), (3, .ref (g.2.2 32)), (4, .int (z32 i))]) (by decide) (fun _ => rfl) (fun y5 hy5 => ?_)
  replace hy5 := hy5.symm
  subst hy5
  refine m_aload_n hC dL_law_139 3 rfl ?_
  refine m_callVix (n := 0) hC (c_X5_join hM.2.1) gL_law_X5_join rfl dL_law_140 rfl rfl (by decide +kernel) ⟨(Nat.le_of_ble_eq_true rfl), (Nat.le_of_ble_eq_true rfl)⟩ rfl (Nat.le_of_ble_eq_true rfl) ⟨by omega, by omega⟩ rfl (fun v S2 hr => ?_)
  obtain ⟨F1, F2, F3, F4, F5⟩ : Fnl S S2 r v := fin_join h hw hM hr
  refine m_istore hC dL_law_143 (fun z9 => [(6, .int (z32 z9)), (5, .int (z32 r)), (0, .ref b), (1, .ref (g.2.2 0)), (2, .ref (g.2.2 18)), (3, .ref (g.2.2 32)), (4, .int (z32 i))]) (by decide) (fun _ => rfl) (fun y6 hy6 => ?_)
  replace hy6 := hy6.symm
  subst hy6
  refine m_aload_n hC dL_law_145 4 rfl ?_
  refine m_callVi (n := 0) hC (c_X5_thrown) gL_law_X5_thrown rfl dL_law_146 rfl rfl (by decide +kernel) ⟨(Nat.le_of_ble_eq_true rfl), (Nat.le_of_ble_eq_true rfl)⟩ rfl (Nat.le_of_ble_eq_true rfl) ⟨by omega, by omega⟩ rfl ?_
  refine m_iload hC dL_law_149 1 rfl ?_
  refine m_icmp_eq (tgt := 156) hC dL_law_151 (by decide) (by omega) (by omega) (fun c_151 => ?_) (fun c_151 => absurd F2 c_151)
  refine m_iload hC dL_law_156 1 rfl ?_
  refine m_if_ne (tgt := 173) hC dL_law_158 (by decide) (by omega) (fun c_158 => ?_) (fun c_158 => ?_)
  · refine m_goto (tgt := 1364) hC dL_law_173 (by decide) ?_
    refine m_locals [2, 3, 4, 5, 6] rfl ?_
    exact kk S2 k1 F1 F5 hk1
  · have hr0 : r = 0 := Decidable.of_not_not c_158
    obtain ⟨F6, F7⟩ := F4 hr0
    refine m_aload_n hC dL_law_161 5 rfl ?_
    refine m_iconst (v := 0) hC dL_law_162 (by decide) ?_
    refine m_laload (o := 32) (n := 1) hC rfl dL_law_163 (by omega) (by decide) (by decide) ?_
    refine m_iload hC dL_law_164 0 rfl ?_
    refine m_i2l hC dL_law_166 F7 ?_
    refine m_lcmp0 hC dL_law_167 (by omega) ?_
    refine m_if_eq (tgt := 173) hC dL_law_168 (by decide) (by omega) (fun _ => ?_) (fun c_168 => absurd rfl c_168)
    refine m_goto (tgt := 1364) hC dL_law_173 (by decide) ?_
    refine m_locals [2, 3, 4, 5, 6] rfl ?_
    exact kk S2 k1 F1 F5 hk1
set_option maxHeartbeats 4000000 in
set_option maxRecDepth 100000 in
theorem law_leave {C : mX} {g : mG} {b L : Nat} {xs : Nat → Int32} {i : Int} {S : Mem} {k : Nat × Nat} (hC : mCtx C RL cL_law 7 wsL_law room_1 g) (hX : lCtx C) (hs : sCtx C b L xs) (hi : 0 ≤ i ∧ i + 4 ≤ (L : Int)) (hL : L ≤ 2048) (h : Iv S) (ht : S 18 14 + 20 ≤ 20000) (hk : k.1 + 5 ≤ room_1.cells ∧ k.2 + 30 ≤ room_1.slots) (kk : ∀ (S2 : Mem) (k2 : Nat × Nat), Iv S2 → S2 18 14 ≤ S 18 14 + 20 → k2.1 ≤ k.1 + 5 ∧ k2.2 ≤ k.2 + 30 → MW C g 7 k2 1364 [(0, .ref b), (1, .ref (g.2.2 0)), (2, .ref (g.2.2 18)), (3, .ref (g.2.2 32)), (4, .int (z32 i))] [] S2) : MW C g 7 k 176 [(0, .ref b), (1, .ref (g.2.2 0)), (2, .ref (g.2.2 18)), (3, .ref (g.2.2 32)), (4, .int (z32 i))] [] S := by
  have hg := Iv_rg h
  have hok := Iv_okC h
  have hfz := Iv_fzC h
  have hgu := Iv_guC h
  have hlr := Iv_lim h
  have hrw := Iv_rw8 h
  refine m_aload_n hC dL_law_176 1 rfl ?_
  refine m_aload_n hC dL_law_177 0 rfl ?_
  refine m_iload hC dL_law_178 4 rfl ?_
  refine m_iconst (v := 1) hC dL_law_180 (by decide) ?_
  refine m_iadd hC dL_law_181 ?_
  refine m_sld hC hs dL_law_182 (by omega) (by omega) (by omega) ?_
  refine m_aload_n hC dL_law_183 3 rfl ?_
  refine m_callLi (n := 3) (P := WPq S (cxLeav S (scv xs (i + 1))) ((lvB S (scv xs (i + 1))).2.2 + (lvD S (scv xs (i + 1))).2.2) (tr12 (cxLeav S (scv xs (i + 1)))) (stLeavC S (scv xs (i + 1)))) hC hX (c_L_leave (scv_r xs (i + 1)) hg hok hgu (hv_leav h)) gL_law_L_leave rfl dL_law_184 (by decide +kernel) ⟨(Nat.le_of_ble_eq_true rfl), (Nat.le_of_ble_eq_true rfl)⟩ rfl (Nat.le_of_ble_eq_true rfl) ⟨(Nat.le_of_ble_eq_true rfl), (Nat.le_of_ble_eq_true rfl)⟩ hk rfl (fun r S1 k1 hw hk1 => ?_)
  have hu := up_gen (fun o ho => leav_up o ho) hw
  have hM : Iv (mg S S1) := up_M h hu
  refine m_istore hC dL_law_187 (fun z9 => [(5, .int (z32 z9)), (0, .ref b), (1, .ref (g.2.2 0)), (2, .ref (g.2.2 18)), (3, .ref (g.2.2 32)), (4, .int (z32 i))]) (by decide) (fun _ => rfl) (fun y5 hy5 => ?_)
  replace hy5 := hy5.symm
  subst hy5
  refine m_aload_n hC dL_law_189 3 rfl ?_
  refine m_aload_n hC dL_law_190 1 rfl ?_
  refine m_iload hC dL_law_191 5 rfl ?_
  refine m_iconst (v := 1) hC dL_law_193 (by decide) ?_
  refine m_iadd hC dL_law_194 ?_
  refine m_sld hC hs dL_law_195 (by omega) (by omega) (by omega) ?_
  refine m_callVix (n := 1) hC (c_X5_leave (scv_r xs (i + 1)) hM.2.1 (Iv_ok (S := mg S S1) hM) (Iv_okg (S := mg S S1) hM) hM.2.2.2.1.1 (fun q9 => (hM.2.2.2.2.2.2.2.2.1 _ (livR_in (S := mg S S1) q9 hM.2.1).1 (livR_in (S := mg S S1) q9 hM.2.1).2.1).1 (Or.inl (livR_in (S := mg S S1) q9 hM.2.1).2.2.2))) gL_law_X5_leave rfl dL_law_196 rfl rfl (by decide +kernel) ⟨(Nat.le_of_ble_eq_true rfl), (Nat.le_of_ble_eq_true rfl)⟩ rfl (Nat.le_of_ble_eq_true rfl) ⟨by omega, by omega⟩ rfl (fun v S2 hr => ?_)
  obtain ⟨F1, F2, F3, F4, F5⟩ : Fnl S S2 r v := fin_leav h hw hM hr (hv_leav h)
  refine m_istore hC dL_law_199 (fun z9 => [(6, .int (z32 z9)), (5, .int (z32 r)), (0, .ref b), (1, .ref (g.2.2 0)), (2, .ref (g.2.2 18)), (3, .ref (g.2.2 32)), (4, .int (z32 i))]) (by decide) (fun _ => rfl) (fun y6 hy6 => ?_)
  replace hy6 := hy6.symm
  subst hy6
  refine m_aload_n hC dL_law_201 4 rfl ?_
  refine m_callVi (n := 0) hC (c_X5_thrown) gL_law_X5_thrown rfl dL_law_202 rfl rfl (by decide +kernel) ⟨(Nat.le_of_ble_eq_true rfl), (Nat.le_of_ble_eq_true rfl)⟩ rfl (Nat.le_of_ble_eq_true rfl) ⟨by omega, by omega⟩ rfl ?_
  refine m_iload hC dL_law_205 1 rfl ?_
  refine m_icmp_eq (tgt := 212) hC dL_law_207 (by decide) (by omega) (by omega) (fun c_207 => ?_) (fun c_207 => absurd F2 c_207)
  refine m_iload hC dL_law_212 1 rfl ?_
  refine m_if_ne (tgt := 229) hC dL_law_214 (by decide) (by omega) (fun c_214 => ?_) (fun c_214 => ?_)
  · refine m_goto (tgt := 1364) hC dL_law_229 (by decide) ?_
    refine m_locals [2, 3, 4, 5, 6] rfl ?_
    exact kk S2 k1 F1 F5 hk1
  · have hr0 : r = 0 := Decidable.of_not_not c_214
    obtain ⟨F6, F7⟩ := F4 hr0
    refine m_aload_n hC dL_law_217 5 rfl ?_
    refine m_iconst (v := 0) hC dL_law_218 (by decide) ?_
    refine m_laload (o := 32) (n := 1) hC rfl dL_law_219 (by omega) (by decide) (by decide) ?_
    refine m_iload hC dL_law_220 0 rfl ?_
    refine m_i2l hC dL_law_222 F7 ?_
    refine m_lcmp0 hC dL_law_223 (by omega) ?_
    refine m_if_eq (tgt := 229) hC dL_law_224 (by decide) (by omega) (fun _ => ?_) (fun c_224 => absurd rfl c_224)
    refine m_goto (tgt := 1364) hC dL_law_229 (by decide) ?_
    refine m_locals [2, 3, 4, 5, 6] rfl ?_
    exact kk S2 k1 F1 F5 hk1
set_option maxHeartbeats 4000000 in
set_option maxRecDepth 100000 in
theorem law_trade {C : mX} {g : mG} {b L : Nat} {xs : Nat → Int32} {i : Int} {S : Mem} {k : Nat × Nat} (hC : mCtx C RL cL_law 7 wsL_law room_1 g) (hX : lCtx C) (hs : sCtx C b L xs) (hi : 0 ≤ i ∧ i + 4 ≤ (L : Int)) (hL : L ≤ 2048) (h : Iv S) (ht : S 18 14 + 20 ≤ 20000) (hk : k.1 + 5 ≤ room_1.cells ∧ k.2 + 30 ≤ room_1.slots) (kk : ∀ (S2 : Mem) (k2 : Nat × Nat), Iv S2 → S2 18 14 ≤ S 18 14 + 20 → k2.1 ≤ k.1 + 5 ∧ k2.2 ≤ k.2 + 30 → MW C g 7 k2 1364 [(0, .ref b), (1, .ref (g.2.2 0)), (2, .ref (g.2.2 18)), (3, .ref (g.2.2 32)), (4, .int (z32 i))] [] S2) : MW C g 7 k 232 [(0, .ref b), (1, .ref (g.2.2 0)), (2, .ref (g.2.2 18)), (3, .ref (g.2.2 32)), (4, .int (z32 i))] [] S := by
  have hg := Iv_rg h
  have hok := Iv_okC h
  have hfz := Iv_fzC h
  have hgu := Iv_guC h
  have hlr := Iv_lim h
  have hrw := Iv_rw8 h
  refine m_aload_n hC dL_law_232 1 rfl ?_
  refine m_aload_n hC dL_law_233 0 rfl ?_
  refine m_iload hC dL_law_234 4 rfl ?_
  refine m_iconst (v := 1) hC dL_law_236 (by decide) ?_
  refine m_iadd hC dL_law_237 ?_
  refine m_sld hC hs dL_law_238 (by omega) (by omega) (by omega) ?_
  refine m_aload_n hC dL_law_239 0 rfl ?_
  refine m_iload hC dL_law_240 4 rfl ?_
  refine m_iconst (v := 2) hC dL_law_242 (by decide) ?_
  refine m_iadd hC dL_law_243 ?_
  refine m_sld hC hs dL_law_244 (by omega) (by omega) (by omega) ?_
  refine m_aload_n hC dL_law_245 0 rfl ?_
  refine m_iload hC dL_law_246 4 rfl ?_
  refine m_iconst (v := 3) hC dL_law_248 (by decide) ?_
  refine m_iadd hC dL_law_249 ?_
  refine m_sld hC hs dL_law_250 (by omega) (by omega) (by omega) ?_
  refine m_aload_n hC dL_law_251 3 rfl ?_
  refine m_callLi (n := 5) (P := WPq S (cxTrade S (scv xs (i + 1)) (scv xs (i + 2)) (scv xs (i + 3))) (S 3 1) (tr123 (cxTrade S (scv xs (i + 1)) (scv xs (i + 2)) (scv xs (i + 3)))) (stTradeC S (scv xs (i + 1)) (scv xs (i + 2)) (scv xs (i + 3)))) hC hX (c_L_trade (scv_r xs (i + 1)) (scv_r xs (i + 2)) (scv_r xs (i + 3)) hg hok hfz hlr (hv_trade h)) gL_law_L_trade rfl dL_law_252 (by decide +kernel) ⟨(Nat.le_of_ble_eq_true rfl), (Nat.le_of_ble_eq_true rfl)⟩ rfl (Nat.le_of_ble_eq_true rfl) ⟨(Nat.le_of_ble_eq_true rfl), (Nat.le_of_ble_eq_true rfl)⟩ hk rfl (fun r S1 k1 hw hk1 => ?_)
  have hu := up_gen up_trade hw
  have hM : Iv (mg S S1) := up_M h hu
  refine m_istore hC dL_law_255 (fun z9 => [(5, .int (z32 z9)), (0, .ref b), (1, .ref (g.2.2 0)), (2, .ref (g.2.2 18)), (3, .ref (g.2.2 32)), (4, .int (z32 i))]) (by decide) (fun _ => rfl) (fun y5 hy5 => ?_)
  replace hy5 := hy5.symm
  subst hy5
  refine m_aload_n hC dL_law_257 3 rfl ?_
  refine m_aload_n hC dL_law_258 1 rfl ?_
  refine m_iload hC dL_law_259 5 rfl ?_
  refine m_iconst (v := 1) hC dL_law_261 (by decide) ?_
  refine m_iadd hC dL_law_262 ?_
  refine m_sld hC hs dL_law_263 (by omega) (by omega) (by omega) ?_
  refine m_aload_n hC dL_law_264 1 rfl ?_
  refine m_iload hC dL_law_265 5 rfl ?_
  refine m_iconst (v := 2) hC dL_law_267 (by decide) ?_
  refine m_iadd hC dL_law_268 ?_
  refine m_sld hC hs dL_law_269 (by omega) (by omega) (by omega) ?_
  refine m_aload_n hC dL_law_270 1 rfl ?_
  refine m_iload hC dL_law_271 5 rfl ?_
  refine m_iconst (v := 3) hC dL_law_273 (by decide) ?_
  refine m_iadd hC dL_law_274 ?_
  refine m_sld hC hs dL_law_275 (by omega) (by omega) (by omega) ?_
  refine m_callVix (n := 3) hC (c_X5_trade (scv_r xs (i + 1)) (scv_r xs (i + 2)) (scv_r xs (i + 3)) hM.2.1 (Iv_ok (S := mg S S1) hM) (Iv_okg (S := mg S S1) hM) hM.2.2.2.1.1) gL_law_X5_trade rfl dL_law_276 rfl rfl (by decide +kernel) ⟨(Nat.le_of_ble_eq_true rfl), (Nat.le_of_ble_eq_true rfl)⟩ rfl (Nat.le_of_ble_eq_true rfl) ⟨by omega, by omega⟩ rfl (fun v S2 hr => ?_)
  obtain ⟨F1, F2, F3, F4, F5⟩ : Fnl S S2 r v := fin_trade h hw hM hr
  refine m_istore hC dL_law_279 (fun z9 => [(6, .int (z32 z9)), (5, .int (z32 r)), (0, .ref b), (1, .ref (g.2.2 0)), (2, .ref (g.2.2 18)), (3, .ref (g.2.2 32)), (4, .int (z32 i))]) (by decide) (fun _ => rfl) (fun y6 hy6 => ?_)
  replace hy6 := hy6.symm
  subst hy6
  refine m_aload_n hC dL_law_281 4 rfl ?_
  refine m_callVi (n := 0) hC (c_X5_thrown) gL_law_X5_thrown rfl dL_law_282 rfl rfl (by decide +kernel) ⟨(Nat.le_of_ble_eq_true rfl), (Nat.le_of_ble_eq_true rfl)⟩ rfl (Nat.le_of_ble_eq_true rfl) ⟨by omega, by omega⟩ rfl ?_
  refine m_iload hC dL_law_285 1 rfl ?_
  refine m_icmp_eq (tgt := 292) hC dL_law_287 (by decide) (by omega) (by omega) (fun c_287 => ?_) (fun c_287 => absurd F2 c_287)
  refine m_iload hC dL_law_292 1 rfl ?_
  refine m_if_ne (tgt := 309) hC dL_law_294 (by decide) (by omega) (fun c_294 => ?_) (fun c_294 => ?_)
  · refine m_goto (tgt := 1364) hC dL_law_309 (by decide) ?_
    refine m_locals [2, 3, 4, 5, 6] rfl ?_
    exact kk S2 k1 F1 F5 hk1
  · have hr0 : r = 0 := Decidable.of_not_not c_294
    obtain ⟨F6, F7⟩ := F4 hr0
    refine m_aload_n hC dL_law_297 5 rfl ?_
    refine m_iconst (v := 0) hC dL_law_298 (by decide) ?_
    refine m_laload (o := 32) (n := 1) hC rfl dL_law_299 (by omega) (by decide) (by decide) ?_
    refine m_iload hC dL_law_300 0 rfl ?_
    refine m_i2l hC dL_law_302 F7 ?_
    refine m_lcmp0 hC dL_law_303 (by omega) ?_
    refine m_if_eq (tgt := 309) hC dL_law_304 (by decide) (by omega) (fun _ => ?_) (fun c_304 => absurd rfl c_304)
    refine m_goto (tgt := 1364) hC dL_law_309 (by decide) ?_
    refine m_locals [2, 3, 4, 5, 6] rfl ?_
    exact kk S2 k1 F1 F5 hk1
set_option maxHeartbeats 4000000 in
set_option maxRecDepth 100000 in
theorem law_dispute {C : mX} {g : mG} {b L : Nat} {xs : Nat → Int32} {i : Int} {S : Mem} {k : Nat × Nat} (hC : mCtx C RL cL_law 7 wsL_law room_1 g) (hX : lCtx C) (hs : sCtx C b L xs) (hi : 0 ≤ i ∧ i + 4 ≤ (L : Int)) (hL : L ≤ 2048) (h : Iv S) (ht : S 18 14 + 20 ≤ 20000) (hk : k.1 + 5 ≤ room_1.cells ∧ k.2 + 30 ≤ room_1.slots) (kk : ∀ (S2 : Mem) (k2 : Nat × Nat), Iv S2 → S2 18 14 ≤ S 18 14 + 20 → k2.1 ≤ k.1 + 5 ∧ k2.2 ≤ k.2 + 30 → MW C g 7 k2 1364 [(0, .ref b), (1, .ref (g.2.2 0)), (2, .ref (g.2.2 18)), (3, .ref (g.2.2 32)), (4, .int (z32 i))] [] S2) : MW C g 7 k 312 [(0, .ref b), (1, .ref (g.2.2 0)), (2, .ref (g.2.2 18)), (3, .ref (g.2.2 32)), (4, .int (z32 i))] [] S := by
  have hg := Iv_rg h
  have hok := Iv_okC h
  have hfz := Iv_fzC h
  have hgu := Iv_guC h
  have hlr := Iv_lim h
  have hrw := Iv_rw8 h
  refine m_aload_n hC dL_law_312 1 rfl ?_
  refine m_aload_n hC dL_law_313 0 rfl ?_
  refine m_iload hC dL_law_314 4 rfl ?_
  refine m_iconst (v := 1) hC dL_law_316 (by decide) ?_
  refine m_iadd hC dL_law_317 ?_
  refine m_sld hC hs dL_law_318 (by omega) (by omega) (by omega) ?_
  refine m_aload_n hC dL_law_319 3 rfl ?_
  refine m_callLi (n := 3) (P := WPq S (cxDisp S (scv xs (i + 1))) (ptDC S (scv xs (i + 1))) (tr12 (cxDisp S (scv xs (i + 1)))) (stDispC S (scv xs (i + 1)))) hC hX (c_L_dispute (scv_r xs (i + 1)) hg hok hfz (hv_disp h)) gL_law_L_dispute rfl dL_law_320 (by decide +kernel) ⟨(Nat.le_of_ble_eq_true rfl), (Nat.le_of_ble_eq_true rfl)⟩ rfl (Nat.le_of_ble_eq_true rfl) ⟨(Nat.le_of_ble_eq_true rfl), (Nat.le_of_ble_eq_true rfl)⟩ hk rfl (fun r S1 k1 hw hk1 => ?_)
  have hu := up_gen up_disp hw
  have hM : Iv (mg S S1) := up_M h hu
  refine m_istore hC dL_law_323 (fun z9 => [(5, .int (z32 z9)), (0, .ref b), (1, .ref (g.2.2 0)), (2, .ref (g.2.2 18)), (3, .ref (g.2.2 32)), (4, .int (z32 i))]) (by decide) (fun _ => rfl) (fun y5 hy5 => ?_)
  replace hy5 := hy5.symm
  subst hy5
  refine m_aload_n hC dL_law_325 3 rfl ?_
  refine m_aload_n hC dL_law_326 1 rfl ?_
  refine m_iload hC dL_law_327 5 rfl ?_
  refine m_iconst (v := 1) hC dL_law_329 (by decide) ?_
  refine m_iadd hC dL_law_330 ?_
  refine m_sld hC hs dL_law_331 (by omega) (by omega) (by omega) ?_
  refine m_callVix (n := 1) hC (c_X5_dispute (scv_r xs (i + 1)) hM.2.1 (Iv_ok (S := mg S S1) hM) (Iv_okg (S := mg S S1) hM) hM.2.2.2.1.1) gL_law_X5_dispute rfl dL_law_332 rfl rfl (by decide +kernel) ⟨(Nat.le_of_ble_eq_true rfl), (Nat.le_of_ble_eq_true rfl)⟩ rfl (Nat.le_of_ble_eq_true rfl) ⟨by omega, by omega⟩ rfl (fun v S2 hr => ?_)
  obtain ⟨F1, F2, F3, F4, F5⟩ : Fnl S S2 r v := fin_disp h hw hM hr
  refine m_istore hC dL_law_335 (fun z9 => [(6, .int (z32 z9)), (5, .int (z32 r)), (0, .ref b), (1, .ref (g.2.2 0)), (2, .ref (g.2.2 18)), (3, .ref (g.2.2 32)), (4, .int (z32 i))]) (by decide) (fun _ => rfl) (fun y6 hy6 => ?_)
  replace hy6 := hy6.symm
  subst hy6
  refine m_aload_n hC dL_law_337 4 rfl ?_
  refine m_callVi (n := 0) hC (c_X5_thrown) gL_law_X5_thrown rfl dL_law_338 rfl rfl (by decide +kernel) ⟨(Nat.le_of_ble_eq_true rfl), (Nat.le_of_ble_eq_true rfl)⟩ rfl (Nat.le_of_ble_eq_true rfl) ⟨by omega, by omega⟩ rfl ?_
  refine m_iload hC dL_law_341 1 rfl ?_
  refine m_icmp_eq (tgt := 348) hC dL_law_343 (by decide) (by omega) (by omega) (fun c_343 => ?_) (fun c_343 => absurd F2 c_343)
  refine m_iload hC dL_law_348 1 rfl ?_
  refine m_if_ne (tgt := 365) hC dL_law_350 (by decide) (by omega) (fun c_350 => ?_) (fun c_350 => ?_)
  · refine m_goto (tgt := 1364) hC dL_law_365 (by decide) ?_
    refine m_locals [2, 3, 4, 5, 6] rfl ?_
    exact kk S2 k1 F1 F5 hk1
  · have hr0 : r = 0 := Decidable.of_not_not c_350
    obtain ⟨F6, F7⟩ := F4 hr0
    refine m_aload_n hC dL_law_353 5 rfl ?_
    refine m_iconst (v := 0) hC dL_law_354 (by decide) ?_
    refine m_laload (o := 32) (n := 1) hC rfl dL_law_355 (by omega) (by decide) (by decide) ?_
    refine m_iload hC dL_law_356 0 rfl ?_
    refine m_i2l hC dL_law_358 F7 ?_
    refine m_lcmp0 hC dL_law_359 (by omega) ?_
    refine m_if_eq (tgt := 365) hC dL_law_360 (by decide) (by omega) (fun _ => ?_) (fun c_360 => absurd rfl c_360)
    refine m_goto (tgt := 1364) hC dL_law_365 (by decide) ?_
    refine m_locals [2, 3, 4, 5, 6] rfl ?_
    exact kk S2 k1 F1 F5 hk1
set_option maxHeartbeats 4000000 in
set_option maxRecDepth 100000 in
theorem law_settle {C : mX} {g : mG} {b L : Nat} {xs : Nat → Int32} {i : Int} {S : Mem} {k : Nat × Nat} (hC : mCtx C RL cL_law 7 wsL_law room_1 g) (hX : lCtx C) (hs : sCtx C b L xs) (hi : 0 ≤ i ∧ i + 4 ≤ (L : Int)) (hL : L ≤ 2048) (h : Iv S) (ht : S 18 14 + 20 ≤ 20000) (hk : k.1 + 5 ≤ room_1.cells ∧ k.2 + 30 ≤ room_1.slots) (kk : ∀ (S2 : Mem) (k2 : Nat × Nat), Iv S2 → S2 18 14 ≤ S 18 14 + 20 → k2.1 ≤ k.1 + 5 ∧ k2.2 ≤ k.2 + 30 → MW C g 7 k2 1364 [(0, .ref b), (1, .ref (g.2.2 0)), (2, .ref (g.2.2 18)), (3, .ref (g.2.2 32)), (4, .int (z32 i))] [] S2) : MW C g 7 k 368 [(0, .ref b), (1, .ref (g.2.2 0)), (2, .ref (g.2.2 18)), (3, .ref (g.2.2 32)), (4, .int (z32 i))] [] S := by
  have hg := Iv_rg h
  have hok := Iv_okC h
  have hfz := Iv_fzC h
  have hgu := Iv_guC h
  have hlr := Iv_lim h
  have hrw := Iv_rw8 h
  by_cases cz : (scv xs (i + 2)) = 0
  · have hz : (0 : Int) = 0 ∨ (0 : Int) = 1 := by decide
    refine m_aload_n hC dL_law_368 1 rfl ?_
    refine m_aload_n hC dL_law_369 0 rfl ?_
    refine m_iload hC dL_law_370 4 rfl ?_
    refine m_iconst (v := 1) hC dL_law_372 (by decide) ?_
    refine m_iadd hC dL_law_373 ?_
    refine m_sld hC hs dL_law_374 (by omega) (by omega) (by omega) ?_
    refine m_aload_n hC dL_law_375 0 rfl ?_
    refine m_iload hC dL_law_376 4 rfl ?_
    refine m_iconst (v := 2) hC dL_law_378 (by decide) ?_
    refine m_iadd hC dL_law_379 ?_
    refine m_sld hC hs dL_law_380 (by omega) (by omega) (by omega) ?_
    refine m_if_eq (tgt := 388) hC dL_law_381 (by decide) (scv_r xs (i + 2)) (fun c_381 => ?_) (fun c_381 => ?_)
    · refine m_iconst (v := 0) hC dL_law_388 (by decide) ?_
      refine m_aload_n hC dL_law_389 3 rfl ?_
      refine m_callLi (n := 4) (P := WPq S (cxSett S (scv xs (i + 1))) (moSC S (scv xs (i + 1)) 0) (tr12 (cxSett S (scv xs (i + 1)))) (stSettC S (scv xs (i + 1)) 0)) hC hX (c_L_settle (scv_r xs (i + 1)) hz hg hok hfz hrw (hv_sett h)) gL_law_L_settle rfl dL_law_390 (by decide +kernel) ⟨(Nat.le_of_ble_eq_true rfl), (Nat.le_of_ble_eq_true rfl)⟩ rfl (Nat.le_of_ble_eq_true rfl) ⟨(Nat.le_of_ble_eq_true rfl), (Nat.le_of_ble_eq_true rfl)⟩ hk rfl (fun r S1 k1 hw hk1 => ?_)
      have hu := up_gen up_sett hw
      have hM : Iv (mg S S1) := up_M h hu
      refine m_istore hC dL_law_393 (fun z9 => [(5, .int (z32 z9)), (0, .ref b), (1, .ref (g.2.2 0)), (2, .ref (g.2.2 18)), (3, .ref (g.2.2 32)), (4, .int (z32 i))]) (by decide) (fun _ => rfl) (fun y5 hy5 => ?_)
      replace hy5 := hy5.symm
      subst hy5
      refine m_aload_n hC dL_law_395 3 rfl ?_
      refine m_aload_n hC dL_law_396 1 rfl ?_
      refine m_iload hC dL_law_397 5 rfl ?_
      refine m_iconst (v := 1) hC dL_law_399 (by decide) ?_
      refine m_iadd hC dL_law_400 ?_
      refine m_sld hC hs dL_law_401 (by omega) (by omega) (by omega) ?_
      refine m_aload_n hC dL_law_402 1 rfl ?_
      refine m_iload hC dL_law_403 5 rfl ?_
      refine m_iconst (v := 2) hC dL_law_405 (by decide) ?_
      refine m_iadd hC dL_law_406 ?_
      refine m_sld hC hs dL_law_407 (by omega) (by omega) (by omega) ?_
      refine m_if_eq (tgt := 415) hC dL_law_408 (by decide) (scv_r xs (i + 2)) (fun c_408 => ?_) (fun c_408 => ?_)
      · refine m_iconst (v := 0) hC dL_law_415 (by decide) ?_
        refine m_callVix (n := 2) hC (c_X5_settle (scv_r xs (i + 1)) hz hM.2.1 (Iv_ok (S := mg S S1) hM) (Iv_okg (S := mg S S1) hM) hM.2.2.2.1.1) gL_law_X5_settle rfl dL_law_416 rfl rfl (by decide +kernel) ⟨(Nat.le_of_ble_eq_true rfl), (Nat.le_of_ble_eq_true rfl)⟩ rfl (Nat.le_of_ble_eq_true rfl) ⟨by omega, by omega⟩ rfl (fun v S2 hr => ?_)
        obtain ⟨F1, F2, F3, F4, F5⟩ : Fnl S S2 r v := fin_sett h hw hM hr
        refine m_istore hC dL_law_419 (fun z9 => [(6, .int (z32 z9)), (5, .int (z32 r)), (0, .ref b), (1, .ref (g.2.2 0)), (2, .ref (g.2.2 18)), (3, .ref (g.2.2 32)), (4, .int (z32 i))]) (by decide) (fun _ => rfl) (fun y6 hy6 => ?_)
        replace hy6 := hy6.symm
        subst hy6
        refine m_aload_n hC dL_law_421 4 rfl ?_
        refine m_callVi (n := 0) hC (c_X5_thrown) gL_law_X5_thrown rfl dL_law_422 rfl rfl (by decide +kernel) ⟨(Nat.le_of_ble_eq_true rfl), (Nat.le_of_ble_eq_true rfl)⟩ rfl (Nat.le_of_ble_eq_true rfl) ⟨by omega, by omega⟩ rfl ?_
        refine m_iload hC dL_law_425 1 rfl ?_
        refine m_icmp_eq (tgt := 432) hC dL_law_427 (by decide) (by omega) (by omega) (fun c_427 => ?_) (fun c_427 => absurd F2 c_427)
        refine m_iload hC dL_law_432 1 rfl ?_
        refine m_if_ne (tgt := 449) hC dL_law_434 (by decide) (by omega) (fun c_434 => ?_) (fun c_434 => ?_)
        · refine m_goto (tgt := 1364) hC dL_law_449 (by decide) ?_
          refine m_locals [2, 3, 4, 5, 6] rfl ?_
          exact kk S2 k1 F1 F5 hk1
        · have hr0 : r = 0 := Decidable.of_not_not c_434
          obtain ⟨F6, F7⟩ := F4 hr0
          refine m_aload_n hC dL_law_437 5 rfl ?_
          refine m_iconst (v := 0) hC dL_law_438 (by decide) ?_
          refine m_laload (o := 32) (n := 1) hC rfl dL_law_439 (by omega) (by decide) (by decide) ?_
          refine m_iload hC dL_law_440 0 rfl ?_
          refine m_i2l hC dL_law_442 F7 ?_
          refine m_lcmp0 hC dL_law_443 (by omega) ?_
          refine m_if_eq (tgt := 449) hC dL_law_444 (by decide) (by omega) (fun _ => ?_) (fun c_444 => absurd rfl c_444)
          refine m_goto (tgt := 1364) hC dL_law_449 (by decide) ?_
          refine m_locals [2, 3, 4, 5, 6] rfl ?_
          exact kk S2 k1 F1 F5 hk1
      · exact absurd cz c_408
    · exact absurd cz c_381
  · have hz : (1 : Int) = 0 ∨ (1 : Int) = 1 := by decide
    refine m_aload_n hC dL_law_368 1 rfl ?_
    refine m_aload_n hC dL_law_369 0 rfl ?_
    refine m_iload hC dL_law_370 4 rfl ?_
    refine m_iconst (v := 1) hC dL_law_372 (by decide) ?_
    refine m_iadd hC dL_law_373 ?_
    refine m_sld hC hs dL_law_374 (by omega) (by omega) (by omega) ?_
    refine m_aload_n hC dL_law_375 0 rfl ?_
    refine m_iload hC dL_law_376 4 rfl ?_
    refine m_iconst (v := 2) hC dL_law_378 (by decide) ?_
    refine m_iadd hC dL_law_379 ?_
    refine m_sld hC hs dL_law_380 (by omega) (by omega) (by omega) ?_
    refine m_if_eq (tgt := 388) hC dL_law_381 (by decide) (scv_r xs (i + 2)) (fun c_381 => ?_) (fun c_381 => ?_)
    · exact absurd c_381 cz
    · refine m_iconst (v := 1) hC dL_law_384 (by decide) ?_
      refine m_goto (tgt := 389) hC dL_law_385 (by decide) ?_
      refine m_aload_n hC dL_law_389 3 rfl ?_
      refine m_callLi (n := 4) (P := WPq S (cxSett S (scv xs (i + 1))) (moSC S (scv xs (i + 1)) 1) (tr12 (cxSett S (scv xs (i + 1)))) (stSettC S (scv xs (i + 1)) 1)) hC hX (c_L_settle (scv_r xs (i + 1)) hz hg hok hfz hrw (hv_sett h)) gL_law_L_settle rfl dL_law_390 (by decide +kernel) ⟨(Nat.le_of_ble_eq_true rfl), (Nat.le_of_ble_eq_true rfl)⟩ rfl (Nat.le_of_ble_eq_true rfl) ⟨(Nat.le_of_ble_eq_true rfl), (Nat.le_of_ble_eq_true rfl)⟩ hk rfl (fun r S1 k1 hw hk1 => ?_)
      have hu := up_gen up_sett hw
      have hM : Iv (mg S S1) := up_M h hu
      refine m_istore hC dL_law_393 (fun z9 => [(5, .int (z32 z9)), (0, .ref b), (1, .ref (g.2.2 0)), (2, .ref (g.2.2 18)), (3, .ref (g.2.2 32)), (4, .int (z32 i))]) (by decide) (fun _ => rfl) (fun y5 hy5 => ?_)
      replace hy5 := hy5.symm
      subst hy5
      refine m_aload_n hC dL_law_395 3 rfl ?_
      refine m_aload_n hC dL_law_396 1 rfl ?_
      refine m_iload hC dL_law_397 5 rfl ?_
      refine m_iconst (v := 1) hC dL_law_399 (by decide) ?_
      refine m_iadd hC dL_law_400 ?_
      refine m_sld hC hs dL_law_401 (by omega) (by omega) (by omega) ?_
      refine m_aload_n hC dL_law_402 1 rfl ?_
      refine m_iload hC dL_law_403 5 rfl ?_
      refine m_iconst (v := 2) hC dL_law_405 (by decide) ?_
      refine m_iadd hC dL_law_406 ?_
      refine m_sld hC hs dL_law_407 (by omega) (by omega) (by omega) ?_
      refine m_if_eq (tgt := 415) hC dL_law_408 (by decide) (scv_r xs (i + 2)) (fun c_408 => ?_) (fun c_408 => ?_)
      · exact absurd c_408 cz
      · refine m_iconst (v := 1) hC dL_law_411 (by decide) ?_
        refine m_goto (tgt := 416) hC dL_law_412 (by decide) ?_
        refine m_callVix (n := 2) hC (c_X5_settle (scv_r xs (i + 1)) hz hM.2.1 (Iv_ok (S := mg S S1) hM) (Iv_okg (S := mg S S1) hM) hM.2.2.2.1.1) gL_law_X5_settle rfl dL_law_416 rfl rfl (by decide +kernel) ⟨(Nat.le_of_ble_eq_true rfl), (Nat.le_of_ble_eq_true rfl)⟩ rfl (Nat.le_of_ble_eq_true rfl) ⟨by omega, by omega⟩ rfl (fun v S2 hr => ?_)
        obtain ⟨F1, F2, F3, F4, F5⟩ : Fnl S S2 r v := fin_sett h hw hM hr
        refine m_istore hC dL_law_419 (fun z9 => [(6, .int (z32 z9)), (5, .int (z32 r)), (0, .ref b), (1, .ref (g.2.2 0)), (2, .ref (g.2.2 18)), (3, .ref (g.2.2 32)), (4, .int (z32 i))]) (by decide) (fun _ => rfl) (fun y6 hy6 => ?_)
        replace hy6 := hy6.symm
        subst hy6
        refine m_aload_n hC dL_law_421 4 rfl ?_
        refine m_callVi (n := 0) hC (c_X5_thrown) gL_law_X5_thrown rfl dL_law_422 rfl rfl (by decide +kernel) ⟨(Nat.le_of_ble_eq_true rfl), (Nat.le_of_ble_eq_true rfl)⟩ rfl (Nat.le_of_ble_eq_true rfl) ⟨by omega, by omega⟩ rfl ?_
        refine m_iload hC dL_law_425 1 rfl ?_
        refine m_icmp_eq (tgt := 432) hC dL_law_427 (by decide) (by omega) (by omega) (fun c_427 => ?_) (fun c_427 => absurd F2 c_427)
        refine m_iload hC dL_law_432 1 rfl ?_
        refine m_if_ne (tgt := 449) hC dL_law_434 (by decide) (by omega) (fun c_434 => ?_) (fun c_434 => ?_)
        · refine m_goto (tgt := 1364) hC dL_law_449 (by decide) ?_
          refine m_locals [2, 3, 4, 5, 6] rfl ?_
          exact kk S2 k1 F1 F5 hk1
        · have hr0 : r = 0 := Decidable.of_not_not c_434
          obtain ⟨F6, F7⟩ := F4 hr0
          refine m_aload_n hC dL_law_437 5 rfl ?_
          refine m_iconst (v := 0) hC dL_law_438 (by decide) ?_
          refine m_laload (o := 32) (n := 1) hC rfl dL_law_439 (by omega) (by decide) (by decide) ?_
          refine m_iload hC dL_law_440 0 rfl ?_
          refine m_i2l hC dL_law_442 F7 ?_
          refine m_lcmp0 hC dL_law_443 (by omega) ?_
          refine m_if_eq (tgt := 449) hC dL_law_444 (by decide) (by omega) (fun _ => ?_) (fun c_444 => absurd rfl c_444)
          refine m_goto (tgt := 1364) hC dL_law_449 (by decide) ?_
          refine m_locals [2, 3, 4, 5, 6] rfl ?_
          exact kk S2 k1 F1 F5 hk1
set_option maxHeartbeats 4000000 in
set_option maxRecDepth 100000 in
theorem law_guarantee {C : mX} {g : mG} {b L : Nat} {xs : Nat → Int32} {i : Int} {S : Mem} {k : Nat × Nat} (hC : mCtx C RL cL_law 7 wsL_law room_1 g) (hX : lCtx C) (hs : sCtx C b L xs) (hi : 0 ≤ i ∧ i + 4 ≤ (L : Int)) (hL : L ≤ 2048) (h : Iv S) (ht : S 18 14 + 20 ≤ 20000) (hk : k.1 + 5 ≤ room_1.cells ∧ k.2 + 30 ≤ room_1.slots) (kk : ∀ (S2 : Mem) (k2 : Nat × Nat), Iv S2 → S2 18 14 ≤ S 18 14 + 20 → k2.1 ≤ k.1 + 5 ∧ k2.2 ≤ k.2 + 30 → MW C g 7 k2 1364 [(0, .ref b), (1, .ref (g.2.2 0)), (2, .ref (g.2.2 18)), (3, .ref (g.2.2 32)), (4, .int (z32 i))] [] S2) : MW C g 7 k 452 [(0, .ref b), (1, .ref (g.2.2 0)), (2, .ref (g.2.2 18)), (3, .ref (g.2.2 32)), (4, .int (z32 i))] [] S := by
  have hg := Iv_rg h
  have hok := Iv_okC h
  have hfz := Iv_fzC h
  have hgu := Iv_guC h
  have hlr := Iv_lim h
  have hrw := Iv_rw8 h
  refine m_aload_n hC dL_law_452 1 rfl ?_
  refine m_aload_n hC dL_law_453 0 rfl ?_
  refine m_iload hC dL_law_454 4 rfl ?_
  refine m_iconst (v := 1) hC dL_law_456 (by decide) ?_
  refine m_iadd hC dL_law_457 ?_
  refine m_sld hC hs dL_law_458 (by omega) (by omega) (by omega) ?_
  refine m_aload_n hC dL_law_459 0 rfl ?_
  refine m_iload hC dL_law_460 4 rfl ?_
  refine m_iconst (v := 2) hC dL_law_462 (by decide) ?_
  refine m_iadd hC dL_law_463 ?_
  refine m_sld hC hs dL_law_464 (by omega) (by omega) (by omega) ?_
  refine m_aload_n hC dL_law_465 0 rfl ?_
  refine m_iload hC dL_law_466 4 rfl ?_
  refine m_iconst (v := 3) hC dL_law_468 (by decide) ?_
  refine m_iadd hC dL_law_469 ?_
  refine m_sld hC hs dL_law_470 (by omega) (by omega) (by omega) ?_
  refine m_aload_n hC dL_law_471 3 rfl ?_
  refine m_callLi (n := 5) (P := WPq S (cxGuar S (scv xs (i + 1)) (scv xs (i + 2)) (scv xs (i + 3))) (S 12 (ix (scv xs (i + 1)) (scv xs (i + 2))) + (scv xs (i + 3))) (tr123 (cxGuar S (scv xs (i + 1)) (scv xs (i + 2)) (scv xs (i + 3)))) (mput S 12 (adF (S 12) (scv xs (i + 1)) (scv xs (i + 2)) (scv xs (i + 3))))) hC hX (c_L_guarantee (scv_r xs (i + 1)) (scv_r xs (i + 2)) (scv_r xs (i + 3)) hg hok hfz hgu hlr (hv_guar h)) gL_law_L_guarantee rfl dL_law_472 (by decide +kernel) ⟨(Nat.le_of_ble_eq_true rfl), (Nat.le_of_ble_eq_true rfl)⟩ rfl (Nat.le_of_ble_eq_true rfl) ⟨(Nat.le_of_ble_eq_true rfl), (Nat.le_of_ble_eq_true rfl)⟩ hk rfl (fun r S1 k1 hw hk1 => ?_)
  have hu := up_gen (fun o ho => mput_ne (by omega)) hw
  have hM : Iv (mg S S1) := up_M h hu
  refine m_istore hC dL_law_475 (fun z9 => [(5, .int (z32 z9)), (0, .ref b), (1, .ref (g.2.2 0)), (2, .ref (g.2.2 18)), (3, .ref (g.2.2 32)), (4, .int (z32 i))]) (by decide) (fun _ => rfl) (fun y5 hy5 => ?_)
  replace hy5 := hy5.symm
  subst hy5
  refine m_aload_n hC dL_law_477 3 rfl ?_
  refine m_aload_n hC dL_law_478 1 rfl ?_
  refine m_iload hC dL_law_479 5 rfl ?_
  refine m_iconst (v := 1) hC dL_law_481 (by decide) ?_
  refine m_iadd hC dL_law_482 ?_
  refine m_sld hC hs dL_law_483 (by omega) (by omega) (by omega) ?_
  refine m_aload_n hC dL_law_484 1 rfl ?_
  refine m_iload hC dL_law_485 5 rfl ?_
  refine m_iconst (v := 2) hC dL_law_487 (by decide) ?_
  refine m_iadd hC dL_law_488 ?_
  refine m_sld hC hs dL_law_489 (by omega) (by omega) (by omega) ?_
  refine m_aload_n hC dL_law_490 1 rfl ?_
  refine m_iload hC dL_law_491 5 rfl ?_
  refine m_iconst (v := 3) hC dL_law_493 (by decide) ?_
  refine m_iadd hC dL_law_494 ?_
  refine m_sld hC hs dL_law_495 (by omega) (by omega) (by omega) ?_
  refine m_callVix (n := 3) hC (c_X5_guarantee (scv_r xs (i + 1)) (scv_r xs (i + 2)) (scv_r xs (i + 3)) hM.2.1 (Iv_ok (S := mg S S1) hM) (Iv_okg (S := mg S S1) hM) hM.2.2.2.1.1) gL_law_X5_guarantee rfl dL_law_496 rfl rfl (by decide +kernel) ⟨(Nat.le_of_ble_eq_true rfl), (Nat.le_of_ble_eq_true rfl)⟩ rfl (Nat.le_of_ble_eq_true rfl) ⟨by omega, by omega⟩ rfl (fun v S2 hr => ?_)
  obtain ⟨F1, F2, F3, F4, F5⟩ : Fnl S S2 r v := fin_guar h hw hM hr
  refine m_istore hC dL_law_499 (fun z9 => [(6, .int (z32 z9)), (5, .int (z32 r)), (0, .ref b), (1, .ref (g.2.2 0)), (2, .ref (g.2.2 18)), (3, .ref (g.2.2 32)), (4, .int (z32 i))]) (by decide) (fun _ => rfl) (fun y6 hy6 => ?_)
  replace hy6 := hy6.symm
  subst hy6
  refine m_aload_n hC dL_law_501 4 rfl ?_
  refine m_callVi (n := 0) hC (c_X5_thrown) gL_law_X5_thrown rfl dL_law_502 rfl rfl (by decide +kernel) ⟨(Nat.le_of_ble_eq_true rfl), (Nat.le_of_ble_eq_true rfl)⟩ rfl (Nat.le_of_ble_eq_true rfl) ⟨by omega, by omega⟩ rfl ?_
  refine m_iload hC dL_law_505 1 rfl ?_
  refine m_icmp_eq (tgt := 512) hC dL_law_507 (by decide) (by omega) (by omega) (fun c_507 => ?_) (fun c_507 => absurd F2 c_507)
  refine m_iload hC dL_law_512 1 rfl ?_
  refine m_if_ne (tgt := 529) hC dL_law_514 (by decide) (by omega) (fun c_514 => ?_) (fun c_514 => ?_)
  · refine m_goto (tgt := 1364) hC dL_law_529 (by decide) ?_
    refine m_locals [2, 3, 4, 5, 6] rfl ?_
    exact kk S2 k1 F1 F5 hk1
  · have hr0 : r = 0 := Decidable.of_not_not c_514
    obtain ⟨F6, F7⟩ := F4 hr0
    refine m_aload_n hC dL_law_517 5 rfl ?_
    refine m_iconst (v := 0) hC dL_law_518 (by decide) ?_
    refine m_laload (o := 32) (n := 1) hC rfl dL_law_519 (by omega) (by decide) (by decide) ?_
    refine m_iload hC dL_law_520 0 rfl ?_
    refine m_i2l hC dL_law_522 F7 ?_
    refine m_lcmp0 hC dL_law_523 (by omega) ?_
    refine m_if_eq (tgt := 529) hC dL_law_524 (by decide) (by omega) (fun _ => ?_) (fun c_524 => absurd rfl c_524)
    refine m_goto (tgt := 1364) hC dL_law_529 (by decide) ?_
    refine m_locals [2, 3, 4, 5, 6] rfl ?_
    exact kk S2 k1 F1 F5 hk1
set_option maxHeartbeats 4000000 in
set_option maxRecDepth 100000 in
theorem law_revoke {C : mX} {g : mG} {b L : Nat} {xs : Nat → Int32} {i : Int} {S : Mem} {k : Nat × Nat} (hC : mCtx C RL cL_law 7 wsL_law room_1 g) (hX : lCtx C) (hs : sCtx C b L xs) (hi : 0 ≤ i ∧ i + 4 ≤ (L : Int)) (hL : L ≤ 2048) (h : Iv S) (ht : S 18 14 + 20 ≤ 20000) (hk : k.1 + 5 ≤ room_1.cells ∧ k.2 + 30 ≤ room_1.slots) (kk : ∀ (S2 : Mem) (k2 : Nat × Nat), Iv S2 → S2 18 14 ≤ S 18 14 + 20 → k2.1 ≤ k.1 + 5 ∧ k2.2 ≤ k.2 + 30 → MW C g 7 k2 1364 [(0, .ref b), (1, .ref (g.2.2 0)), (2, .ref (g.2.2 18)), (3, .ref (g.2.2 32)), (4, .int (z32 i))] [] S2) : MW C g 7 k 532 [(0, .ref b), (1, .ref (g.2.2 0)), (2, .ref (g.2.2 18)), (3, .ref (g.2.2 32)), (4, .int (z32 i))] [] S := by
  have hg := Iv_rg h
  have hok := Iv_okC h
  have hfz := Iv_fzC h
  have hgu := Iv_guC h
  have hlr := Iv_lim h
  have hrw := Iv_rw8 h
  refine m_aload_n hC dL_law_532 1 rfl ?_
  refine m_aload_n hC dL_law_533 0 rfl ?_
  refine m_iload hC dL_law_534 4 rfl ?_
  refine m_iconst (v := 1) hC dL_law_536 (by decide) ?_
  refine m_iadd hC dL_law_537 ?_
  refine m_sld hC hs dL_law_538 (by omega) (by omega) (by omega) ?_
  refine m_aload_n hC dL_law_539 0 rfl ?_
  refine m_iload hC dL_law_540 4 rfl ?_
  refine m_iconst (v := 2) hC dL_law_542 (by decide) ?_
  refine m_iadd hC dL_law_543 ?_
  refine m_sld hC hs dL_law_544 (by omega) (by omega) (by omega) ?_
  refine m_aload_n hC dL_law_545 0 rfl ?_
  refine m_iload hC dL_law_546 4 rfl ?_
  refine m_iconst (v := 3) hC dL_law_548 (by decide) ?_
  refine m_iadd hC dL_law_549 ?_
  refine m_sld hC hs dL_law_550 (by omega) (by omega) (by omega) ?_
  refine m_aload_n hC dL_law_551 3 rfl ?_
  refine m_callLi (n := 5) (P := WPq S (cxRevo S (scv xs (i + 1)) (scv xs (i + 2)) (scv xs (i + 3))) (S 12 (ix (scv xs (i + 1)) (scv xs (i + 2))) + (-(scv xs (i + 3)))) (tr123 (cxRevo S (scv xs (i + 1)) (scv xs (i + 2)) (scv xs (i + 3)))) (mput S 12 (adF (S 12) (scv xs (i + 1)) (scv xs (i + 2)) (-(scv xs (i + 3)))))) hC hX (c_L_revoke (scv_r xs (i + 1)) (scv_r xs (i + 2)) (scv_r xs (i + 3)) hg hok hfz hgu hlr (hv_revo h)) gL_law_L_revoke rfl dL_law_552 (by decide +kernel) ⟨(Nat.le_of_ble_eq_true rfl), (Nat.le_of_ble_eq_true rfl)⟩ rfl (Nat.le_of_ble_eq_true rfl) ⟨(Nat.le_of_ble_eq_true rfl), (Nat.le_of_ble_eq_true rfl)⟩ hk rfl (fun r S1 k1 hw hk1 => ?_)
  have hu := up_gen (fun o ho => mput_ne (by omega)) hw
  have hM : Iv (mg S S1) := up_M h hu
  refine m_istore hC dL_law_555 (fun z9 => [(5, .int (z32 z9)), (0, .ref b), (1, .ref (g.2.2 0)), (2, .ref (g.2.2 18)), (3, .ref (g.2.2 32)), (4, .int (z32 i))]) (by decide) (fun _ => rfl) (fun y5 hy5 => ?_)
  replace hy5 := hy5.symm
  subst hy5
  refine m_aload_n hC dL_law_557 3 rfl ?_
  refine m_aload_n hC dL_law_558 1 rfl ?_
  refine m_iload hC dL_law_559 5 rfl ?_
  refine m_iconst (v := 1) hC dL_law_561 (by decide) ?_
  refine m_iadd hC dL_law_562 ?_
  refine m_sld hC hs dL_law_563 (by omega) (by omega) (by omega) ?_
  refine m_aload_n hC dL_law_564 1 rfl ?_
  refine m_iload hC dL_law_565 5 rfl ?_
  refine m_iconst (v := 2) hC dL_law_567 (by decide) ?_
  refine m_iadd hC dL_law_568 ?_
  refine m_sld hC hs dL_law_569 (by omega) (by omega) (by omega) ?_
  refine m_aload_n hC dL_law_570 1 rfl ?_
  refine m_iload hC dL_law_571 5 rfl ?_
  refine m_iconst (v := 3) hC dL_law_573 (by decide) ?_
  refine m_iadd hC dL_law_574 ?_
  refine m_sld hC hs dL_law_575 (by omega) (by omega) (by omega) ?_
  refine m_callVix (n := 3) hC (c_X5_revoke (scv_r xs (i + 1)) (scv_r xs (i + 2)) (scv_r xs (i + 3)) hM.2.1 (Iv_ok (S := mg S S1) hM) (Iv_okg (S := mg S S1) hM) hM.2.2.2.1.1) gL_law_X5_revoke rfl dL_law_576 rfl rfl (by decide +kernel) ⟨(Nat.le_of_ble_eq_true rfl), (Nat.le_of_ble_eq_true rfl)⟩ rfl (Nat.le_of_ble_eq_true rfl) ⟨by omega, by omega⟩ rfl (fun v S2 hr => ?_)
  obtain ⟨F1, F2, F3, F4, F5⟩ : Fnl S S2 r v := fin_revo h hw hM hr
  refine m_istore hC dL_law_579 (fun z9 => [(6, .int (z32 z9)), (5, .int (z32 r)), (0, .ref b), (1, .ref (g.2.2 0)), (2, .ref (g.2.2 18)), (3, .ref (g.2.2 32)), (4, .int (z32 i))]) (by decide) (fun _ => rfl) (fun y6 hy6 => ?_)
  replace hy6 := hy6.symm
  subst hy6
  refine m_aload_n hC dL_law_581 4 rfl ?_
  refine m_callVi (n := 0) hC (c_X5_thrown) gL_law_X5_thrown rfl dL_law_582 rfl rfl (by decide +kernel) ⟨(Nat.le_of_ble_eq_true rfl), (Nat.le_of_ble_eq_true rfl)⟩ rfl (Nat.le_of_ble_eq_true rfl) ⟨by omega, by omega⟩ rfl ?_
  refine m_iload hC dL_law_585 1 rfl ?_
  refine m_icmp_eq (tgt := 592) hC dL_law_587 (by decide) (by omega) (by omega) (fun c_587 => ?_) (fun c_587 => absurd F2 c_587)
  refine m_iload hC dL_law_592 1 rfl ?_
  refine m_if_ne (tgt := 609) hC dL_law_594 (by decide) (by omega) (fun c_594 => ?_) (fun c_594 => ?_)
  · refine m_goto (tgt := 1364) hC dL_law_609 (by decide) ?_
    refine m_locals [2, 3, 4, 5, 6] rfl ?_
    exact kk S2 k1 F1 F5 hk1
  · have hr0 : r = 0 := Decidable.of_not_not c_594
    obtain ⟨F6, F7⟩ := F4 hr0
    refine m_aload_n hC dL_law_597 5 rfl ?_
    refine m_iconst (v := 0) hC dL_law_598 (by decide) ?_
    refine m_laload (o := 32) (n := 1) hC rfl dL_law_599 (by omega) (by decide) (by decide) ?_
    refine m_iload hC dL_law_600 0 rfl ?_
    refine m_i2l hC dL_law_602 F7 ?_
    refine m_lcmp0 hC dL_law_603 (by omega) ?_
    refine m_if_eq (tgt := 609) hC dL_law_604 (by decide) (by omega) (fun _ => ?_) (fun c_604 => absurd rfl c_604)
    refine m_goto (tgt := 1364) hC dL_law_609 (by decide) ?_
    refine m_locals [2, 3, 4, 5, 6] rfl ?_
    exact kk S2 k1 F1 F5 hk1
set_option maxHeartbeats 4000000 in
set_option maxRecDepth 100000 in
theorem law_fee {C : mX} {g : mG} {b L : Nat} {xs : Nat → Int32} {i : Int} {S : Mem} {k : Nat × Nat} (hC : mCtx C RL cL_law 7 wsL_law room_1 g) (hX : lCtx C) (hs : sCtx C b L xs) (hi : 0 ≤ i ∧ i + 4 ≤ (L : Int)) (hL : L ≤ 2048) (h : Iv S) (ht : S 18 14 + 20 ≤ 20000) (hk : k.1 + 5 ≤ room_1.cells ∧ k.2 + 30 ≤ room_1.slots) (kk : ∀ (S2 : Mem) (k2 : Nat × Nat), Iv S2 → S2 18 14 ≤ S 18 14 + 20 → k2.1 ≤ k.1 + 5 ∧ k2.2 ≤ k.2 + 30 → MW C g 7 k2 1364 [(0, .ref b), (1, .ref (g.2.2 0)), (2, .ref (g.2.2 18)), (3, .ref (g.2.2 32)), (4, .int (z32 i))] [] S2) : MW C g 7 k 612 [(0, .ref b), (1, .ref (g.2.2 0)), (2, .ref (g.2.2 18)), (3, .ref (g.2.2 32)), (4, .int (z32 i))] [] S := by
  have hg := Iv_rg h
  have hok := Iv_okC h
  have hfz := Iv_fzC h
  have hgu := Iv_guC h
  have hlr := Iv_lim h
  have hrw := Iv_rw8 h
  refine m_aload_n hC dL_law_612 1 rfl ?_
  refine m_aload_n hC dL_law_613 0 rfl ?_
  refine m_iload hC dL_law_614 4 rfl ?_
  refine m_iconst (v := 1) hC dL_law_616 (by decide) ?_
  refine m_iadd hC dL_law_617 ?_
  refine m_sld hC hs dL_law_618 (by omega) (by omega) (by omega) ?_
  refine m_aload_n hC dL_law_619 3 rfl ?_
  refine m_callLi (n := 3) (P := WPq S (cxFee S (scv xs (i + 1))) (S 0 8) (trOne (cxFee S (scv xs (i + 1)))) (mset S 0 8 (scv xs (i + 1)))) hC hX (c_L_fee (scv_r xs (i + 1)) hg (hv_fee h)) gL_law_L_fee rfl dL_law_620 (by decide +kernel) ⟨(Nat.le_of_ble_eq_true rfl), (Nat.le_of_ble_eq_true rfl)⟩ rfl (Nat.le_of_ble_eq_true rfl) ⟨(Nat.le_of_ble_eq_true rfl), (Nat.le_of_ble_eq_true rfl)⟩ hk rfl (fun r S1 k1 hw hk1 => ?_)
  have hu := up_gen (fun o ho => mset_o (by omega)) hw
  have hM : Iv (mg S S1) := up_M h hu
  refine m_istore hC dL_law_623 (fun z9 => [(5, .int (z32 z9)), (0, .ref b), (1, .ref (g.2.2 0)), (2, .ref (g.2.2 18)), (3, .ref (g.2.2 32)), (4, .int (z32 i))]) (by decide) (fun _ => rfl) (fun y5 hy5 => ?_)
  replace hy5 := hy5.symm
  subst hy5
  refine m_aload_n hC dL_law_625 3 rfl ?_
  refine m_aload_n hC dL_law_626 1 rfl ?_
  refine m_iload hC dL_law_627 5 rfl ?_
  refine m_iconst (v := 1) hC dL_law_629 (by decide) ?_
  refine m_iadd hC dL_law_630 ?_
  refine m_sld hC hs dL_law_631 (by omega) (by omega) (by omega) ?_
  refine m_callVix (n := 1) hC (c_X5_fee (scv_r xs (i + 1)) hM.2.1) gL_law_X5_fee rfl dL_law_632 rfl rfl (by decide +kernel) ⟨(Nat.le_of_ble_eq_true rfl), (Nat.le_of_ble_eq_true rfl)⟩ rfl (Nat.le_of_ble_eq_true rfl) ⟨by omega, by omega⟩ rfl (fun v S2 hr => ?_)
  obtain ⟨F1, F2, F3, F4, F5⟩ : Fnl S S2 r v := fin_fee h hw hM hr
  refine m_istore hC dL_law_635 (fun z9 => [(6, .int (z32 z9)), (5, .int (z32 r)), (0, .ref b), (1, .ref (g.2.2 0)), (2, .ref (g.2.2 18)), (3, .ref (g.2.2 32)), (4, .int (z32 i))]) (by decide) (fun _ => rfl) (fun y6 hy6 => ?_)
  replace hy6 := hy6.symm
  subst hy6
  refine m_aload_n hC dL_law_637 4 rfl ?_
  refine m_callVi (n := 0) hC (c_X5_thrown) gL_law_X5_thrown rfl dL_law_638 rfl rfl (by decide +kernel) ⟨(Nat.le_of_ble_eq_true rfl), (Nat.le_of_ble_eq_true rfl)⟩ rfl (Nat.le_of_ble_eq_true rfl) ⟨by omega, by omega⟩ rfl ?_
  refine m_iload hC dL_law_641 1 rfl ?_
  refine m_icmp_eq (tgt := 648) hC dL_law_643 (by decide) (by omega) (by omega) (fun c_643 => ?_) (fun c_643 => absurd F2 c_643)
  refine m_iload hC dL_law_648 1 rfl ?_
  refine m_if_ne (tgt := 665) hC dL_law_650 (by decide) (by omega) (fun c_650 => ?_) (fun c_650 => ?_)
  · refine m_goto (tgt := 1364) hC dL_law_665 (by decide) ?_
    refine m_locals [2, 3, 4, 5, 6] rfl ?_
    exact kk S2 k1 F1 F5 hk1
  · have hr0 : r = 0 := Decidable.of_not_not c_650
    obtain ⟨F6, F7⟩ := F4 hr0
    refine m_aload_n hC dL_law_653 5 rfl ?_
    refine m_iconst (v := 0) hC dL_law_654 (by decide) ?_
    refine m_laload (o := 32) (n := 1) hC rfl dL_law_655 (by omega) (by decide) (by decide) ?_
    refine m_iload hC dL_law_656 0 rfl ?_
    refine m_i2l hC dL_law_658 F7 ?_
    refine m_lcmp0 hC dL_law_659 (by omega) ?_
    refine m_if_eq (tgt := 665) hC dL_law_660 (by decide) (by omega) (fun _ => ?_) (fun c_660 => absurd rfl c_660)
    refine m_goto (tgt := 1364) hC dL_law_665 (by decide) ?_
    refine m_locals [2, 3, 4, 5, 6] rfl ?_
    exact kk S2 k1 F1 F5 hk1
set_option maxHeartbeats 4000000 in
set_option maxRecDepth 100000 in
theorem law_night {C : mX} {g : mG} {b L : Nat} {xs : Nat → Int32} {i : Int} {S : Mem} {k : Nat × Nat} (hC : mCtx C RL cL_law 7 wsL_law room_1 g) (hX : lCtx C) (hs : sCtx C b L xs) (hi : 0 ≤ i ∧ i + 4 ≤ (L : Int)) (hL : L ≤ 2048) (h : Iv S) (ht : S 18 14 + 20 ≤ 20000) (hk : k.1 + 5 ≤ room_1.cells ∧ k.2 + 30 ≤ room_1.slots) (kk : ∀ (S2 : Mem) (k2 : Nat × Nat), Iv S2 → S2 18 14 ≤ S 18 14 + 20 → k2.1 ≤ k.1 + 5 ∧ k2.2 ≤ k.2 + 30 → MW C g 7 k2 1364 [(0, .ref b), (1, .ref (g.2.2 0)), (2, .ref (g.2.2 18)), (3, .ref (g.2.2 32)), (4, .int (z32 i))] [] S2) : MW C g 7 k 668 [(0, .ref b), (1, .ref (g.2.2 0)), (2, .ref (g.2.2 18)), (3, .ref (g.2.2 32)), (4, .int (z32 i))] [] S := by
  have hg := Iv_rg h
  have hok := Iv_okC h
  have hfz := Iv_fzC h
  have hgu := Iv_guC h
  have hlr := Iv_lim h
  have hrw := Iv_rw8 h
  refine m_aload_n hC dL_law_668 1 rfl ?_
  refine m_aload_n hC dL_law_669 0 rfl ?_
  refine m_iload hC dL_law_670 4 rfl ?_
  refine m_iconst (v := 1) hC dL_law_672 (by decide) ?_
  refine m_iadd hC dL_law_673 ?_
  refine m_sld hC hs dL_law_674 (by omega) (by omega) (by omega) ?_
  refine m_aload_n hC dL_law_675 3 rfl ?_
  refine m_callLi (n := 3) (P := fun r9 S9 => (cxNight (scv xs (i + 1)) = 0 → r9 = 0 ∧ ∃ v1 S3, (v1 = S3 0 7 ∧ ngC (scv xs (i + 1)).toNat S S3) ∧ S9 = mset S3 32 0 v1) ∧ (cxNight (scv xs (i + 1)) ≠ 0 → r9 = trOne (cxNight (scv xs (i + 1))) ∧ S9 = S)) hC hX (c_L_night (scv_r xs (i + 1)) (Iv_nGdC h) (by rw [h.1.2.2.2.2.1]; exact ht) (hv_nigh h ht)) gL_law_L_night rfl dL_law_676 (by decide +kernel) ⟨(Nat.le_of_ble_eq_true rfl), (Nat.le_of_ble_eq_true rfl)⟩ rfl (Nat.le_of_ble_eq_true rfl) ⟨(Nat.le_of_ble_eq_true rfl), (Nat.le_of_ble_eq_true rfl)⟩ hk rfl (fun r S1 k1 hw hk1 => ?_)
  have hu := up_nigh h ht hw
  have hM : Iv (mg S S1) := up_M h hu
  refine m_istore hC dL_law_679 (fun z9 => [(5, .int (z32 z9)), (0, .ref b), (1, .ref (g.2.2 0)), (2, .ref (g.2.2 18)), (3, .ref (g.2.2 32)), (4, .int (z32 i))]) (by decide) (fun _ => rfl) (fun y5 hy5 => ?_)
  replace hy5 := hy5.symm
  subst hy5
  refine m_aload_n hC dL_law_681 3 rfl ?_
  refine m_aload_n hC dL_law_682 1 rfl ?_
  refine m_iload hC dL_law_683 5 rfl ?_
  refine m_iconst (v := 1) hC dL_law_685 (by decide) ?_
  refine m_iadd hC dL_law_686 ?_
  refine m_sld hC hs dL_law_687 (by omega) (by omega) (by omega) ?_
  refine m_callVix (n := 1) hC (c_X5_night (scv_r xs (i + 1)) (Iv_nGd (S := mg S S1) hM) (by rw [hu 18 (by decide) (by decide)]; exact ht)) gL_law_X5_night rfl dL_law_688 rfl rfl (by decide +kernel) ⟨(Nat.le_of_ble_eq_true rfl), (Nat.le_of_ble_eq_true rfl)⟩ rfl (Nat.le_of_ble_eq_true rfl) ⟨by omega, by omega⟩ rfl (fun v S2 hr => ?_)
  obtain ⟨F1, F2, F3, F4, F5⟩ : Fnl S S2 r v := fin_nigh h ht hw hr
  refine m_istore hC dL_law_691 (fun z9 => [(6, .int (z32 z9)), (5, .int (z32 r)), (0, .ref b), (1, .ref (g.2.2 0)), (2, .ref (g.2.2 18)), (3, .ref (g.2.2 32)), (4, .int (z32 i))]) (by decide) (fun _ => rfl) (fun y6 hy6 => ?_)
  replace hy6 := hy6.symm
  subst hy6
  refine m_aload_n hC dL_law_693 4 rfl ?_
  refine m_callVi (n := 0) hC (c_X5_thrown) gL_law_X5_thrown rfl dL_law_694 rfl rfl (by decide +kernel) ⟨(Nat.le_of_ble_eq_true rfl), (Nat.le_of_ble_eq_true rfl)⟩ rfl (Nat.le_of_ble_eq_true rfl) ⟨by omega, by omega⟩ rfl ?_
  refine m_iload hC dL_law_697 1 rfl ?_
  refine m_icmp_eq (tgt := 704) hC dL_law_699 (by decide) (by omega) (by omega) (fun c_699 => ?_) (fun c_699 => absurd F2 c_699)
  refine m_iload hC dL_law_704 1 rfl ?_
  refine m_if_ne (tgt := 721) hC dL_law_706 (by decide) (by omega) (fun c_706 => ?_) (fun c_706 => ?_)
  · refine m_goto (tgt := 1364) hC dL_law_721 (by decide) ?_
    refine m_locals [2, 3, 4, 5, 6] rfl ?_
    exact kk S2 k1 F1 F5 hk1
  · have hr0 : r = 0 := Decidable.of_not_not c_706
    obtain ⟨F6, F7⟩ := F4 hr0
    refine m_aload_n hC dL_law_709 5 rfl ?_
    refine m_iconst (v := 0) hC dL_law_710 (by decide) ?_
    refine m_laload (o := 32) (n := 1) hC rfl dL_law_711 (by omega) (by decide) (by decide) ?_
    refine m_iload hC dL_law_712 0 rfl ?_
    refine m_i2l hC dL_law_714 F7 ?_
    refine m_lcmp0 hC dL_law_715 (by omega) ?_
    refine m_if_eq (tgt := 721) hC dL_law_716 (by decide) (by omega) (fun _ => ?_) (fun c_716 => absurd rfl c_716)
    refine m_goto (tgt := 1364) hC dL_law_721 (by decide) ?_
    refine m_locals [2, 3, 4, 5, 6] rfl ?_
    exact kk S2 k1 F1 F5 hk1
