/-! the law's cases -/
section CASES
variable {l : Launch} {D : va_G} {cA : Nat → ClassId} {bs : Nat} {A B : XS} {h : hE} {q r w g b L n k z v kd i j tn ce sl : Nat} {xs : Nat → Int32}
variable {p9 : Program} {e9 : Env} {s9 : State} {m9 : MethodId} {args9 : Array Value} {below9 : List Frame} {meth9 : Method} {c9 : Code} {Q : State → Prop}
set_option maxHeartbeats 16000000 in
set_option maxRecDepth 100000 in
theorem ca_lot (C : Cx p9 s9 m9 meth9 c9 cL_law 16 args9 wsL_law RL D cA bs) (hlt : l.stackTraces = false) (hz : hZ bs s9 s9.heap) (hsz : SZl s9) (t : TW cA q r A B h) (hR : RW w g A B) (hn : xnl A = n) (hn10 : n ≤ 10) (hw1 : 1 ≤ w) (hw : w ≤ 8) (hg1 : 1 ≤ g) (hg : g ≤ 8) (hv : v < 2 ^ 30) (hi : i < w) (hj : j < g) (htn : tn < 256) (hce : ce + 2200 ≤ 1200104) (hsl : sl + 16500 ≤ 5501314) (hlt10 : n < 10) (kx : ∀ (h2 : hE) (A2 B2 : XS) (n2 : Nat), TW cA q r A2 B2 h2 → RW w g A2 B2 → xnl A2 = n2 → n2 ≤ 10 → V p9 l e9 room_1 s9 m9 args9 below9 meth9 c9 D bs 16 h2 (ce + 2200) (sl + 16500) Q 594 [some (.ref b), some (.ref q), some (.ref r), some (.int (nI w)), some (.int (nI g)), some (.int (nI n2)), some (.int 1), some (.int (nI k)), none, none, none, none, none, none, none, none] []) : V p9 l e9 room_1 s9 m9 args9 below9 meth9 c9 D bs 16 h ce sl Q 226 [some (.ref b), some (.ref q), some (.ref r), some (.int (nI w)), some (.int (nI g)), some (.int (nI n)), some (.int 1), some (.int (nI k)), some (.int (nI z)), some (.int (nI v)), some (.int (nI kd)), some (.int (nI i)), some (.int (nI j)), some (.int (nI tn)), none, none] [] := by
  have ok : okR (nI (v % 25501)) 0 25500 ∧ okR (nI (1 + v % 30)) 1 500 ∧ okR 0 0 1 := ⟨⟨nI_pos' (by omega), (nI_leI (b := 25500) (by omega) (by decide)).mpr (by omega)⟩, ⟨(nI_leI (a := 1) (by decide) (by omega)).mpr (by omega), (nI_leI (b := 500) (by omega) (by decide)).mpr (by omega)⟩, by decide⟩
  have hl := fun d : Int32 => hR.lot (d := d) ok (by omega)
  rw [hn] at hl
  refine V_iconst (v := 1) C dL_law_226 (by decide) ?_
  refine V_iload C dL_law_227 rfl ?_
  refine V_bipush (v := 30) C dL_law_229 (by decide) ?_
  refine V_irem C dL_law_231 (by decide) ?_
  rw [show nI (v) - nI (v) / 30 * 30 = nI ((v) % 30) from pk_rem (a := v) (d := 30) (by omega) (by decide) (by decide)]
  refine V_iadd C dL_law_232 ?_
  rw [show (1 : Int32) + nI (v % 30) = nI (1 + v % 30) from nI_add 1 (v % 30)]
  refine V_istore14 C dL_law_233 (by decide) ?_
  refine V_iload C dL_law_235 rfl ?_
  refine V_bipush (v := 30) C dL_law_237 (by decide) ?_
  refine V_idiv C dL_law_239 (by decide) ?_
  rw [show nI (v) / 30 = nI ((v) / 30) from pk_div (a := v) (d := 30) (by omega) (by decide) (by decide)]
  refine V_iconst (v := 4) C dL_law_240 (by decide) ?_
  refine V_irem C dL_law_241 (by decide) ?_
  rw [show nI (v / 30) - nI (v / 30) / 4 * 4 = nI ((v / 30) % 4) from pk_rem (a := v / 30) (d := 4) (by omega) (by decide) (by decide)]
  refine V_if_le (tgt := 249) C dL_law_242 (by decide) (fun c242 => ?_) (fun c242 => ?_)
  · refine V_iconst (v := 0) C dL_law_249 (by decide) ?_
    refine V_istore15 C dL_law_250 (by decide) ?_
    refine V_aload_n (i := 1) C dL_law_252 rfl rfl ?_
    refine V_iload C dL_law_253 rfl ?_
    refine V_sipush (v := 25501) C dL_law_255 (by decide) ?_
    refine V_irem C dL_law_258 (by decide) ?_
    rw [show nI (v) - nI (v) / 25501 * 25501 = nI ((v) % 25501) from pk_rem (a := v) (d := 25501) (by omega) (by decide) (by decide)]
    refine V_iload C dL_law_259 rfl ?_
    refine V_iconst (v := 0) C dL_law_261 (by decide) ?_
    refine V_iload C dL_law_262 rfl ?_
    refine V_ccallS (n := 5) C (ta_lot hlt t (by first | exact Or.inl rfl | exact Or.inr rfl)) dL_law_264 gL_law_L_adds rfl (by decide +kernel) rfl rfl (by exact Nat.le_of_ble_eq_true rfl) ⟨by dsimp only [rmk, room_1]; omega, by dsimp only [rmk, room_1]; omega⟩ ⟨Nat.le_of_ble_eq_true rfl, Nat.le_of_ble_eq_true rfl⟩ hz SZl.moves hsz (fun v9 h9 hr9 => ?_)
    obtain ⟨rfl, t1⟩ := hr9
    refine V_iload C dL_law_267 rfl ?_
    refine V_icmp_ne (tgt := 296) C dL_law_269 (by decide) (fun z9 => absurd z9 (fun z => z (hl _).1)) (fun _ => ?_)
    refine V_aload_n (i := 2) C dL_law_272 rfl rfl ?_
    refine V_iload C dL_law_273 rfl ?_
    refine V_sipush (v := 25501) C dL_law_275 (by decide) ?_
    refine V_irem C dL_law_278 (by decide) ?_
    rw [show nI (v) - nI (v) / 25501 * 25501 = nI ((v) % 25501) from pk_rem (a := v) (d := 25501) (by omega) (by decide) (by decide)]
    refine V_iload C dL_law_279 rfl ?_
    refine V_iconst (v := 0) C dL_law_281 (by decide) ?_
    refine V_iload C dL_law_282 rfl ?_
    refine V_ccallS (n := 5) C (tb_lot hlt t1 (by first | exact Or.inl rfl | exact Or.inr rfl)) dL_law_284 gL_law_L_adds rfl (by decide +kernel) rfl rfl (by exact Nat.le_of_ble_eq_true rfl) ⟨by dsimp only [rmk, room_1]; omega, by dsimp only [rmk, room_1]; omega⟩ ⟨Nat.le_of_ble_eq_true rfl, Nat.le_of_ble_eq_true rfl⟩ hz SZl.moves hsz (fun v9 h9 hr9 => ?_)
    obtain ⟨rfl, t2⟩ := hr9
    refine V_iload C dL_law_287 rfl ?_
    refine V_icmp_ne (tgt := 296) C dL_law_289 (by decide) (fun z9 => absurd z9 (fun z => z (hl _).2.1)) (fun _ => ?_)
    refine V_iconst (v := 1) C dL_law_292 (by decide) ?_
    refine V_goto (tgt := 297) C dL_law_293 (by decide) ?_
    refine V_istore6 C dL_law_297 (by decide) ?_
    refine V_iinc5 (v := nI (n + 1)) C dL_law_299 (nI_1 _) (by decide) ?_
    refine V_goto (tgt := 594) C dL_law_302 (by decide) ?_
    exact V_wid (k2 := ce + 2200) (n2 := sl + 16500) (by dsimp only [rmk]; omega) (by dsimp only [rmk]; omega) (V_wk (by simp [lle]) (kx _ _ _ (n + 1) t2 (hl _).2.2.1 (hl _).2.2.2 hlt10))
  · refine V_iconst (v := 1) C dL_law_245 (by decide) ?_
    refine V_goto (tgt := 250) C dL_law_246 (by decide) ?_
    refine V_istore15 C dL_law_250 (by decide) ?_
    refine V_aload_n (i := 1) C dL_law_252 rfl rfl ?_
    refine V_iload C dL_law_253 rfl ?_
    refine V_sipush (v := 25501) C dL_law_255 (by decide) ?_
    refine V_irem C dL_law_258 (by decide) ?_
    rw [show nI (v) - nI (v) / 25501 * 25501 = nI ((v) % 25501) from pk_rem (a := v) (d := 25501) (by omega) (by decide) (by decide)]
    refine V_iload C dL_law_259 rfl ?_
    refine V_iconst (v := 0) C dL_law_261 (by decide) ?_
    refine V_iload C dL_law_262 rfl ?_
    refine V_ccallS (n := 5) C (ta_lot hlt t (by first | exact Or.inl rfl | exact Or.inr rfl)) dL_law_264 gL_law_L_adds rfl (by decide +kernel) rfl rfl (by exact Nat.le_of_ble_eq_true rfl) ⟨by dsimp only [rmk, room_1]; omega, by dsimp only [rmk, room_1]; omega⟩ ⟨Nat.le_of_ble_eq_true rfl, Nat.le_of_ble_eq_true rfl⟩ hz SZl.moves hsz (fun v9 h9 hr9 => ?_)
    obtain ⟨rfl, t1⟩ := hr9
    refine V_iload C dL_law_267 rfl ?_
    refine V_icmp_ne (tgt := 296) C dL_law_269 (by decide) (fun z9 => absurd z9 (fun z => z (hl _).1)) (fun _ => ?_)
    refine V_aload_n (i := 2) C dL_law_272 rfl rfl ?_
    refine V_iload C dL_law_273 rfl ?_
    refine V_sipush (v := 25501) C dL_law_275 (by decide) ?_
    refine V_irem C dL_law_278 (by decide) ?_
    rw [show nI (v) - nI (v) / 25501 * 25501 = nI ((v) % 25501) from pk_rem (a := v) (d := 25501) (by omega) (by decide) (by decide)]
    refine V_iload C dL_law_279 rfl ?_
    refine V_iconst (v := 0) C dL_law_281 (by decide) ?_
    refine V_iload C dL_law_282 rfl ?_
    refine V_ccallS (n := 5) C (tb_lot hlt t1 (by first | exact Or.inl rfl | exact Or.inr rfl)) dL_law_284 gL_law_L_adds rfl (by decide +kernel) rfl rfl (by exact Nat.le_of_ble_eq_true rfl) ⟨by dsimp only [rmk, room_1]; omega, by dsimp only [rmk, room_1]; omega⟩ ⟨Nat.le_of_ble_eq_true rfl, Nat.le_of_ble_eq_true rfl⟩ hz SZl.moves hsz (fun v9 h9 hr9 => ?_)
    obtain ⟨rfl, t2⟩ := hr9
    refine V_iload C dL_law_287 rfl ?_
    refine V_icmp_ne (tgt := 296) C dL_law_289 (by decide) (fun z9 => absurd z9 (fun z => z (hl _).2.1)) (fun _ => ?_)
    refine V_iconst (v := 1) C dL_law_292 (by decide) ?_
    refine V_goto (tgt := 297) C dL_law_293 (by decide) ?_
    refine V_istore6 C dL_law_297 (by decide) ?_
    refine V_iinc5 (v := nI (n + 1)) C dL_law_299 (nI_1 _) (by decide) ?_
    refine V_goto (tgt := 594) C dL_law_302 (by decide) ?_
    exact V_wid (k2 := ce + 2200) (n2 := sl + 16500) (by dsimp only [rmk]; omega) (by dsimp only [rmk]; omega) (V_wk (by simp [lle]) (kx _ _ _ (n + 1) t2 (hl _).2.2.1 (hl _).2.2.2 hlt10))
set_option maxHeartbeats 16000000 in
set_option maxRecDepth 100000 in
theorem ca_cell (C : Cx p9 s9 m9 meth9 c9 cL_law 16 args9 wsL_law RL D cA bs) (hlt : l.stackTraces = false) (hz : hZ bs s9 s9.heap) (hsz : SZl s9) (t : TW cA q r A B h) (hR : RW w g A B) (hn : xnl A = n) (hn10 : n ≤ 10) (hw1 : 1 ≤ w) (hw : w ≤ 8) (hg1 : 1 ≤ g) (hg : g ≤ 8) (hv : v < 2 ^ 30) (hi : i < w) (hj : j < g) (htn : tn < 256) (hce : ce + 2200 ≤ 1200104) (hsl : sl + 16500 ≤ 5501314) (kx : ∀ (h2 : hE) (A2 B2 : XS) (n2 : Nat), TW cA q r A2 B2 h2 → RW w g A2 B2 → xnl A2 = n2 → n2 ≤ 10 → V p9 l e9 room_1 s9 m9 args9 below9 meth9 c9 D bs 16 h2 (ce + 2200) (sl + 16500) Q 594 [some (.ref b), some (.ref q), some (.ref r), some (.int (nI w)), some (.int (nI g)), some (.int (nI n2)), some (.int 1), some (.int (nI k)), none, none, none, none, none, none, none, none] []) : V p9 l e9 room_1 s9 m9 args9 below9 meth9 c9 D bs 16 h ce sl Q 311 [some (.ref b), some (.ref q), some (.ref r), some (.int (nI w)), some (.int (nI g)), some (.int (nI n)), some (.int 1), some (.int (nI k)), some (.int (nI z)), some (.int (nI v)), some (.int (nI kd)), some (.int (nI i)), some (.int (nI j)), some (.int (nI tn)), none, none] [] := by
  have hc := hR.told hw hg hi hj (t := nI tn) ⟨nI_pos' (by omega), (nI_leI (b := 255) (by omega) (by decide)).mpr (by omega)⟩
  refine V_aload_n (i := 1) C dL_law_311 rfl rfl ?_
  refine V_iconst (v := 0) C dL_law_312 (by decide) ?_
  refine V_iconst (v := 1) C dL_law_313 (by decide) ?_
  refine V_iload C dL_law_314 rfl ?_
  refine V_iload C dL_law_316 rfl ?_
  refine V_iload C dL_law_318 rfl ?_
  refine V_ccallS (n := 6) C (ta_cell hlt t) dL_law_320 gL_law_L_cell rfl (by decide +kernel) rfl rfl (by exact Nat.le_of_ble_eq_true rfl) ⟨by dsimp only [rmk, room_1]; omega, by dsimp only [rmk, room_1]; omega⟩ ⟨Nat.le_of_ble_eq_true rfl, Nat.le_of_ble_eq_true rfl⟩ hz SZl.moves hsz (fun v9 h9 hr9 => ?_)
  obtain ⟨rfl, t1⟩ := hr9
  refine V_aload_n (i := 2) C dL_law_323 rfl rfl ?_
  refine V_iconst (v := 0) C dL_law_324 (by decide) ?_
  refine V_iconst (v := 0) C dL_law_325 (by decide) ?_
  refine V_iload C dL_law_326 rfl ?_
  refine V_iload C dL_law_328 rfl ?_
  refine V_iload C dL_law_330 rfl ?_
  refine V_ccallS (n := 6) C (tb_cell hlt t1) dL_law_332 gL_law_L_cell rfl (by decide +kernel) rfl rfl (by exact Nat.le_of_ble_eq_true rfl) ⟨by dsimp only [rmk, room_1]; omega, by dsimp only [rmk, room_1]; omega⟩ ⟨Nat.le_of_ble_eq_true rfl, Nat.le_of_ble_eq_true rfl⟩ hz SZl.moves hsz (fun v9 h9 hr9 => ?_)
  obtain ⟨rfl, t2⟩ := hr9
  refine V_icmp_ne (tgt := 342) C dL_law_335 (by decide) (fun z9 => absurd z9 (fun z => z hc.1)) (fun _ => ?_)
  refine V_iconst (v := 1) C dL_law_338 (by decide) ?_
  refine V_goto (tgt := 343) C dL_law_339 (by decide) ?_
  refine V_istore6 C dL_law_343 (by decide) ?_
  refine V_goto (tgt := 594) C dL_law_345 (by decide) ?_
  exact V_wid (k2 := ce + 2200) (n2 := sl + 16500) (by dsimp only [rmk]; omega) (by dsimp only [rmk]; omega) (V_wk (by simp [lle]) (kx _ _ _ n t2 hc.2.1 (hc.2.2.trans hn) hn10))
set_option maxHeartbeats 16000000 in
set_option maxRecDepth 100000 in
theorem ca_old (C : Cx p9 s9 m9 meth9 c9 cL_law 16 args9 wsL_law RL D cA bs) (hlt : l.stackTraces = false) (hz : hZ bs s9 s9.heap) (hsz : SZl s9) (t : TW cA q r A B h) (hR : RW w g A B) (hn : xnl A = n) (hn10 : n ≤ 10) (hw1 : 1 ≤ w) (hw : w ≤ 8) (hg1 : 1 ≤ g) (hg : g ≤ 8) (hv : v < 2 ^ 30) (hi : i < w) (hj : j < g) (htn : tn < 256) (hce : ce + 2200 ≤ 1200104) (hsl : sl + 16500 ≤ 5501314) (kx : ∀ (h2 : hE) (A2 B2 : XS) (n2 : Nat), TW cA q r A2 B2 h2 → RW w g A2 B2 → xnl A2 = n2 → n2 ≤ 10 → V p9 l e9 room_1 s9 m9 args9 below9 meth9 c9 D bs 16 h2 (ce + 2200) (sl + 16500) Q 594 [some (.ref b), some (.ref q), some (.ref r), some (.int (nI w)), some (.int (nI g)), some (.int (nI n2)), some (.int 1), some (.int (nI k)), none, none, none, none, none, none, none, none] []) : V p9 l e9 room_1 s9 m9 args9 below9 meth9 c9 D bs 16 h ce sl Q 354 [some (.ref b), some (.ref q), some (.ref r), some (.int (nI w)), some (.int (nI g)), some (.int (nI n)), some (.int 1), some (.int (nI k)), some (.int (nI z)), some (.int (nI v)), some (.int (nI kd)), some (.int (nI i)), some (.int (nI j)), some (.int (nI tn)), none, none] [] := by
  have hc := hR.olds hw hg hi hj (t := nI tn) ⟨nI_pos' (by omega), (nI_leI (b := 255) (by omega) (by decide)).mpr (by omega)⟩
  have hf := hc.2.1.fills
  refine V_aload_n (i := 1) C dL_law_354 rfl rfl ?_
  refine V_iconst (v := 1) C dL_law_355 (by decide) ?_
  refine V_iconst (v := 1) C dL_law_356 (by decide) ?_
  refine V_iload C dL_law_357 rfl ?_
  refine V_iload C dL_law_359 rfl ?_
  refine V_iload C dL_law_361 rfl ?_
  refine V_ccallS (n := 6) C (ta_old hlt t) dL_law_363 gL_law_L_cell rfl (by decide +kernel) rfl rfl (by exact Nat.le_of_ble_eq_true rfl) ⟨by dsimp only [rmk, room_1]; omega, by dsimp only [rmk, room_1]; omega⟩ ⟨Nat.le_of_ble_eq_true rfl, Nat.le_of_ble_eq_true rfl⟩ hz SZl.moves hsz (fun v9 h9 hr9 => ?_)
  obtain ⟨rfl, t1⟩ := hr9
  refine V_aload_n (i := 2) C dL_law_366 rfl rfl ?_
  refine V_iconst (v := 1) C dL_law_367 (by decide) ?_
  refine V_iconst (v := 0) C dL_law_368 (by decide) ?_
  refine V_iload C dL_law_369 rfl ?_
  refine V_iload C dL_law_371 rfl ?_
  refine V_iload C dL_law_373 rfl ?_
  refine V_ccallS (n := 6) C (tb_old hlt t1) dL_law_375 gL_law_L_cell rfl (by decide +kernel) rfl rfl (by exact Nat.le_of_ble_eq_true rfl) ⟨by dsimp only [rmk, room_1]; omega, by dsimp only [rmk, room_1]; omega⟩ ⟨Nat.le_of_ble_eq_true rfl, Nat.le_of_ble_eq_true rfl⟩ hz SZl.moves hsz (fun v9 h9 hr9 => ?_)
  obtain ⟨rfl, t2⟩ := hr9
  refine V_icmp_ne (tgt := 409) C dL_law_378 (by decide) (fun z9 => absurd z9 (fun z => z hc.1)) (fun _ => ?_)
  refine V_iload C dL_law_381 rfl ?_
  refine V_iconst (v := 3) C dL_law_383 (by decide) ?_
  refine V_irem C dL_law_384 (by decide) ?_
  refine V_if_gt (tgt := 405) C dL_law_385 (by decide) (fun c385 => ?_) (fun c385 => ?_)
  · refine V_iconst (v := 1) C dL_law_405 (by decide) ?_
    refine V_goto (tgt := 410) C dL_law_406 (by decide) ?_
    refine V_istore6 C dL_law_410 (by decide) ?_
    refine V_goto (tgt := 594) C dL_law_412 (by decide) ?_
    first | exact V_wid (k2 := ce + 2200) (n2 := sl + 16500) (by dsimp only [rmk]; omega) (by dsimp only [rmk]; omega) (V_wk (by simp [lle]) (kx _ _ _ n t4 hf.2.1 ((hf.2.2.trans hc.2.2).trans hn) hn10)) | exact V_wid (k2 := ce + 2200) (n2 := sl + 16500) (by dsimp only [rmk]; omega) (by dsimp only [rmk]; omega) (V_wk (by simp [lle]) (kx _ _ _ n t2 hc.2.1 (hc.2.2.trans hn) hn10))
  · refine V_aload_n (i := 1) C dL_law_388 rfl rfl ?_
    refine V_iconst (v := 1) C dL_law_389 (by decide) ?_
    refine V_iconst (v := 1) C dL_law_390 (by decide) ?_
    refine V_iconst (v := 0) C dL_law_391 (by decide) ?_
    refine V_ccallS (n := 4) C (ta_fill hlt t2) dL_law_392 gL_law_L_does rfl (by decide +kernel) rfl rfl (by exact Nat.le_of_ble_eq_true rfl) ⟨by dsimp only [rmk, room_1]; omega, by dsimp only [rmk, room_1]; omega⟩ ⟨Nat.le_of_ble_eq_true rfl, Nat.le_of_ble_eq_true rfl⟩ hz SZl.moves hsz (fun v9 h9 hr9 => ?_)
    obtain ⟨rfl, t3⟩ := hr9
    refine V_aload_n (i := 2) C dL_law_395 rfl rfl ?_
    refine V_iconst (v := 1) C dL_law_396 (by decide) ?_
    refine V_iconst (v := 0) C dL_law_397 (by decide) ?_
    refine V_iconst (v := 0) C dL_law_398 (by decide) ?_
    refine V_ccallS (n := 4) C (tb_fill hlt t3) dL_law_399 gL_law_L_does rfl (by decide +kernel) rfl rfl (by exact Nat.le_of_ble_eq_true rfl) ⟨by dsimp only [rmk, room_1]; omega, by dsimp only [rmk, room_1]; omega⟩ ⟨Nat.le_of_ble_eq_true rfl, Nat.le_of_ble_eq_true rfl⟩ hz SZl.moves hsz (fun v9 h9 hr9 => ?_)
    obtain ⟨rfl, t4⟩ := hr9
    refine V_icmp_ne (tgt := 409) C dL_law_402 (by decide) (fun z9 => absurd z9 (fun z => z hf.1)) (fun _ => ?_)
    refine V_iconst (v := 1) C dL_law_405 (by decide) ?_
    refine V_goto (tgt := 410) C dL_law_406 (by decide) ?_
    refine V_istore6 C dL_law_410 (by decide) ?_
    refine V_goto (tgt := 594) C dL_law_412 (by decide) ?_
    first | exact V_wid (k2 := ce + 2200) (n2 := sl + 16500) (by dsimp only [rmk]; omega) (by dsimp only [rmk]; omega) (V_wk (by simp [lle]) (kx _ _ _ n t4 hf.2.1 ((hf.2.2.trans hc.2.2).trans hn) hn10)) | exact V_wid (k2 := ce + 2200) (n2 := sl + 16500) (by dsimp only [rmk]; omega) (by dsimp only [rmk]; omega) (V_wk (by simp [lle]) (kx _ _ _ n t2 hc.2.1 (hc.2.2.trans hn) hn10))
set_option maxHeartbeats 16000000 in
set_option maxRecDepth 100000 in
theorem ca_share (C : Cx p9 s9 m9 meth9 c9 cL_law 16 args9 wsL_law RL D cA bs) (hlt : l.stackTraces = false) (hz : hZ bs s9 s9.heap) (hsz : SZl s9) (t : TW cA q r A B h) (hR : RW w g A B) (hn : xnl A = n) (hn10 : n ≤ 10) (hw1 : 1 ≤ w) (hw : w ≤ 8) (hg1 : 1 ≤ g) (hg : g ≤ 8) (hv : v < 2 ^ 30) (hi : i < w) (hj : j < g) (htn : tn < 256) (hce : ce + 2200 ≤ 1200104) (hsl : sl + 16500 ≤ 5501314) (h2n : 2 ≤ n) (kx : ∀ (h2 : hE) (A2 B2 : XS) (n2 : Nat), TW cA q r A2 B2 h2 → RW w g A2 B2 → xnl A2 = n2 → n2 ≤ 10 → V p9 l e9 room_1 s9 m9 args9 below9 meth9 c9 D bs 16 h2 (ce + 2200) (sl + 16500) Q 594 [some (.ref b), some (.ref q), some (.ref r), some (.int (nI w)), some (.int (nI g)), some (.int (nI n2)), some (.int 1), some (.int (nI k)), none, none, none, none, none, none, none, none] []) : V p9 l e9 room_1 s9 m9 args9 below9 meth9 c9 D bs 16 h ce sl Q 427 [some (.ref b), some (.ref q), some (.ref r), some (.int (nI w)), some (.int (nI g)), some (.int (nI n)), some (.int 1), some (.int (nI k)), some (.int (nI z)), some (.int (nI v)), some (.int (nI kd)), some (.int (nI i)), some (.int (nI j)), some (.int (nI tn)), none, none] [] := by
  have hr : v % n < n := Nat.mod_lt v (by omega)
  have hr2 : (v % n + 1) % n < n := Nat.mod_lt _ (by omega)
  have hne : v % n ≠ (v % n + 1) % n := by
    rcases Nat.lt_or_ge (v % n + 1) n with z | z
    · rw [Nat.mod_eq_of_lt z]; omega
    · have e9 : v % n + 1 = n := by omega
      rw [e9, Nat.mod_self]; omega
  have hlot : ∀ X : XS, xnl X = n → ∀ a, a < n → lotN X (nI a) := fun X hX a ha => by
    show 0 ≤ nI a ∧ nI a < nI (xnl X)
    rw [hX]
    exact ⟨nI_pos' (by omega), nI_lt ha (by omega)⟩
  have hab : nI (v % n) ≠ nI ((v % n + 1) % n) := fun z => hne ((nI_eq (by omega) (by omega)).mp z)
  have hnz : ¬ nI n = 0 := nI_ne0 (by omega) (by omega)
  have hs := hR.shares (hlot A hn _ hr) (hlot A hn _ hr2) hab
  have hc := hs.2.1.comes (x := nI (v % n))
  have hA4 := (hc.2.2.trans hs.2.2).trans hn
  have h0 := hc.2.1.share0 (hlot _ hA4 _ hr) (hlot _ hA4 _ hr2) hab
  refine V_aload_n (i := 1) C dL_law_427 rfl rfl ?_
  refine V_iconst (v := 1) C dL_law_428 (by decide) ?_
  refine V_iconst (v := 1) C dL_law_429 (by decide) ?_
  refine V_iload C dL_law_430 rfl ?_
  refine V_iload C dL_law_432 rfl ?_
  refine V_irem C dL_law_434 hnz ?_
  rw [show nI (v) - nI (v) / nI n * nI n = nI ((v) % n) from pk_rem (a := v) (d := n) (by omega) (by omega) (by omega)]
  refine V_iload C dL_law_435 rfl ?_
  refine V_iload C dL_law_437 rfl ?_
  refine V_irem C dL_law_439 hnz ?_
  rw [show nI (v) - nI (v) / nI n * nI n = nI ((v) % n) from pk_rem (a := v) (d := n) (by omega) (by omega) (by omega)]
  refine V_iconst (v := 1) C dL_law_440 (by decide) ?_
  refine V_iadd C dL_law_441 ?_
  rw [nI_1]
  refine V_iload C dL_law_442 rfl ?_
  refine V_irem C dL_law_444 hnz ?_
  rw [show nI (v % n + 1) - nI (v % n + 1) / nI n * nI n = nI ((v % n + 1) % n) from pk_rem (a := v % n + 1) (d := n) (by omega) (by omega) (by omega)]
  refine V_ccallS (n := 5) C (ta_share hlt t) dL_law_445 gL_law_L_tells rfl (by decide +kernel) rfl rfl (by exact Nat.le_of_ble_eq_true rfl) ⟨by dsimp only [rmk, room_1]; omega, by dsimp only [rmk, room_1]; omega⟩ ⟨Nat.le_of_ble_eq_true rfl, Nat.le_of_ble_eq_true rfl⟩ hz SZl.moves hsz (fun v9 h9 hr9 => ?_)
  obtain ⟨rfl, t1⟩ := hr9
  refine V_aload_n (i := 2) C dL_law_448 rfl rfl ?_
  refine V_iconst (v := 1) C dL_law_449 (by decide) ?_
  refine V_iconst (v := 0) C dL_law_450 (by decide) ?_
  refine V_iload C dL_law_451 rfl ?_
  refine V_iload C dL_law_453 rfl ?_
  refine V_irem C dL_law_455 hnz ?_
  rw [show nI (v) - nI (v) / nI n * nI n = nI ((v) % n) from pk_rem (a := v) (d := n) (by omega) (by omega) (by omega)]
  refine V_iload C dL_law_456 rfl ?_
  refine V_iload C dL_law_458 rfl ?_
  refine V_irem C dL_law_460 hnz ?_
  rw [show nI (v) - nI (v) / nI n * nI n = nI ((v) % n) from pk_rem (a := v) (d := n) (by omega) (by omega) (by omega)]
  refine V_iconst (v := 1) C dL_law_461 (by decide) ?_
  refine V_iadd C dL_law_462 ?_
  rw [nI_1]
  refine V_iload C dL_law_463 rfl ?_
  refine V_irem C dL_law_465 hnz ?_
  rw [show nI (v % n + 1) - nI (v % n + 1) / nI n * nI n = nI ((v % n + 1) % n) from pk_rem (a := v % n + 1) (d := n) (by omega) (by omega) (by omega)]
  refine V_ccallS (n := 5) C (tb_share hlt t1) dL_law_466 gL_law_L_tells rfl (by decide +kernel) rfl rfl (by exact Nat.le_of_ble_eq_true rfl) ⟨by dsimp only [rmk, room_1]; omega, by dsimp only [rmk, room_1]; omega⟩ ⟨Nat.le_of_ble_eq_true rfl, Nat.le_of_ble_eq_true rfl⟩ hz SZl.moves hsz (fun v9 h9 hr9 => ?_)
  obtain ⟨rfl, t2⟩ := hr9
  refine V_icmp_ne (tgt := 525) C dL_law_469 (by decide) (fun z9 => absurd z9 (fun z => z hs.1)) (fun _ => ?_)
  refine V_aload_n (i := 1) C dL_law_472 rfl rfl ?_
  refine V_iconst (v := 0) C dL_law_473 (by decide) ?_
  refine V_iload C dL_law_474 rfl ?_
  refine V_iload C dL_law_476 rfl ?_
  refine V_irem C dL_law_478 hnz ?_
  rw [show nI (v) - nI (v) / nI n * nI n = nI ((v) % n) from pk_rem (a := v) (d := n) (by omega) (by omega) (by omega)]
  refine V_iconst (v := 0) C dL_law_479 (by decide) ?_
  refine V_ccallS (n := 4) C (ta_comes hlt t2) dL_law_480 gL_law_L_does rfl (by decide +kernel) rfl rfl (by exact Nat.le_of_ble_eq_true rfl) ⟨by dsimp only [rmk, room_1]; omega, by dsimp only [rmk, room_1]; omega⟩ ⟨Nat.le_of_ble_eq_true rfl, Nat.le_of_ble_eq_true rfl⟩ hz SZl.moves hsz (fun v9 h9 hr9 => ?_)
  obtain ⟨rfl, t3⟩ := hr9
  refine V_aload_n (i := 2) C dL_law_483 rfl rfl ?_
  refine V_iconst (v := 0) C dL_law_484 (by decide) ?_
  refine V_iload C dL_law_485 rfl ?_
  refine V_iload C dL_law_487 rfl ?_
  refine V_irem C dL_law_489 hnz ?_
  rw [show nI (v) - nI (v) / nI n * nI n = nI ((v) % n) from pk_rem (a := v) (d := n) (by omega) (by omega) (by omega)]
  refine V_iconst (v := 0) C dL_law_490 (by decide) ?_
  refine V_ccallS (n := 4) C (tb_comes hlt t3) dL_law_491 gL_law_L_does rfl (by decide +kernel) rfl rfl (by exact Nat.le_of_ble_eq_true rfl) ⟨by dsimp only [rmk, room_1]; omega, by dsimp only [rmk, room_1]; omega⟩ ⟨Nat.le_of_ble_eq_true rfl, Nat.le_of_ble_eq_true rfl⟩ hz SZl.moves hsz (fun v9 h9 hr9 => ?_)
  obtain ⟨rfl, t4⟩ := hr9
  refine V_icmp_ne (tgt := 525) C dL_law_494 (by decide) (fun z9 => absurd z9 (fun z => z hc.1)) (fun _ => ?_)
  refine V_aload_n (i := 1) C dL_law_497 rfl rfl ?_
  refine V_iconst (v := 1) C dL_law_498 (by decide) ?_
  refine V_iconst (v := 0) C dL_law_499 (by decide) ?_
  refine V_iload C dL_law_500 rfl ?_
  refine V_iload C dL_law_502 rfl ?_
  refine V_irem C dL_law_504 hnz ?_
  rw [show nI (v) - nI (v) / nI n * nI n = nI ((v) % n) from pk_rem (a := v) (d := n) (by omega) (by omega) (by omega)]
  refine V_iload C dL_law_505 rfl ?_
  refine V_iload C dL_law_507 rfl ?_
  refine V_irem C dL_law_509 hnz ?_
  rw [show nI (v) - nI (v) / nI n * nI n = nI ((v) % n) from pk_rem (a := v) (d := n) (by omega) (by omega) (by omega)]
  refine V_iconst (v := 1) C dL_law_510 (by decide) ?_
  refine V_iadd C dL_law_511 ?_
  rw [nI_1]
  refine V_iload C dL_law_512 rfl ?_
  refine V_irem C dL_law_514 hnz ?_
  rw [show nI (v % n + 1) - nI (v % n + 1) / nI n * nI n = nI ((v % n + 1) % n) from pk_rem (a := v % n + 1) (d := n) (by omega) (by omega) (by omega)]
  refine V_ccallS (n := 5) C (ta_share hlt t4) dL_law_515 gL_law_L_tells rfl (by decide +kernel) rfl rfl (by exact Nat.le_of_ble_eq_true rfl) ⟨by dsimp only [rmk, room_1]; omega, by dsimp only [rmk, room_1]; omega⟩ ⟨Nat.le_of_ble_eq_true rfl, Nat.le_of_ble_eq_true rfl⟩ hz SZl.moves hsz (fun v9 h9 hr9 => ?_)
  obtain ⟨rfl, t5⟩ := hr9
  rw [h0.2] at t5
  refine V_if_ne (tgt := 525) C dL_law_518 (by decide) (fun z9 => absurd z9 (fun z => z h0.1)) (fun _ => ?_)
  refine V_iconst (v := 1) C dL_law_521 (by decide) ?_
  refine V_goto (tgt := 526) C dL_law_522 (by decide) ?_
  refine V_istore6 C dL_law_526 (by decide) ?_
  refine V_goto (tgt := 594) C dL_law_528 (by decide) ?_
  exact V_wid (k2 := ce + 2200) (n2 := sl + 16500) (by dsimp only [rmk]; omega) (by dsimp only [rmk]; omega) (V_wk (by simp [lle]) (kx _ _ _ n t5 hc.2.1 hA4 hn10))
set_option maxHeartbeats 16000000 in
set_option maxRecDepth 100000 in
theorem ca_design (C : Cx p9 s9 m9 meth9 c9 cL_law 16 args9 wsL_law RL D cA bs) (hlt : l.stackTraces = false) (hz : hZ bs s9 s9.heap) (hsz : SZl s9) (t : TW cA q r A B h) (hR : RW w g A B) (hn : xnl A = n) (hn10 : n ≤ 10) (hw1 : 1 ≤ w) (hw : w ≤ 8) (hg1 : 1 ≤ g) (hg : g ≤ 8) (hv : v < 2 ^ 30) (hi : i < w) (hj : j < g) (htn : tn < 256) (hce : ce + 2200 ≤ 1200104) (hsl : sl + 16500 ≤ 5501314) (kx : ∀ (h2 : hE) (A2 B2 : XS) (n2 : Nat), TW cA q r A2 B2 h2 → RW w g A2 B2 → xnl A2 = n2 → n2 ≤ 10 → V p9 l e9 room_1 s9 m9 args9 below9 meth9 c9 D bs 16 h2 (ce + 2200) (sl + 16500) Q 594 [some (.ref b), some (.ref q), some (.ref r), some (.int (nI w)), some (.int (nI g)), some (.int (nI n2)), some (.int 1), some (.int (nI k)), none, none, none, none, none, none, none, none] []) : V p9 l e9 room_1 s9 m9 args9 below9 meth9 c9 D bs 16 h ce sl Q 531 [some (.ref b), some (.ref q), some (.ref r), some (.int (nI w)), some (.int (nI g)), some (.int (nI n)), some (.int 1), some (.int (nI k)), some (.int (nI z)), some (.int (nI v)), some (.int (nI kd)), some (.int (nI i)), some (.int (nI j)), some (.int (nI tn)), none, none] [] := by
  have hd := hR.designs
  have hdes := hR.des hw hg (fun m hm hk0 => by
    have hp : 1 < xnp A := by rw [hR.1.1]; decide
    have hm2 : m < xN A 1 := by rw [hR.N.1]; exact hm
    rcases (t.ci.1.2.1 1 hp m hm2).1 with ⟨-, u⟩ | ⟨u | u, -⟩
    · exact u
    · rw [hk0] at u; exact absurd u (by decide)
    · rw [hk0] at u; exact absurd u (by decide))
  refine V_aload_n (i := 1) C dL_law_531 rfl rfl ?_
  refine V_iconst (v := 2) C dL_law_532 (by decide) ?_
  refine V_iconst (v := 1) C dL_law_533 (by decide) ?_
  refine V_iconst (v := 0) C dL_law_534 (by decide) ?_
  refine V_ccallS (n := 4) C (ta_design hlt t) dL_law_535 gL_law_L_does rfl (by decide +kernel) rfl rfl (by exact Nat.le_of_ble_eq_true rfl) ⟨by dsimp only [rmk, room_1]; omega, by dsimp only [rmk, room_1]; omega⟩ ⟨Nat.le_of_ble_eq_true rfl, Nat.le_of_ble_eq_true rfl⟩ hz SZl.moves hsz (fun v9 h9 hr9 => ?_)
  obtain ⟨rfl, t1⟩ := hr9
  refine V_istore14 C dL_law_538 (by decide) ?_
  refine V_iload C dL_law_540 rfl ?_
  refine V_aload_n (i := 2) C dL_law_542 rfl rfl ?_
  refine V_iconst (v := 2) C dL_law_543 (by decide) ?_
  refine V_iconst (v := 0) C dL_law_544 (by decide) ?_
  refine V_iconst (v := 0) C dL_law_545 (by decide) ?_
  refine V_ccallS (n := 4) C (tb_design hlt t1) dL_law_546 gL_law_L_does rfl (by decide +kernel) rfl rfl (by exact Nat.le_of_ble_eq_true rfl) ⟨by dsimp only [rmk, room_1]; omega, by dsimp only [rmk, room_1]; omega⟩ ⟨Nat.le_of_ble_eq_true rfl, Nat.le_of_ble_eq_true rfl⟩ hz SZl.moves hsz (fun v9 h9 hr9 => ?_)
  obtain ⟨rfl, t2⟩ := hr9
  refine V_icmp_ne (tgt := 591) C dL_law_549 (by decide) (fun z9 => absurd z9 (fun z => z hd.1)) (fun _ => ?_)
  refine V_aload_n (i := 1) C dL_law_552 rfl rfl ?_
  refine V_aload_n (i := 2) C dL_law_553 rfl rfl ?_
  refine V_iconst (v := 1) C dL_law_554 (by decide) ?_
  refine V_iconst (v := 0) C dL_law_555 (by decide) ?_
  refine V_iload_n (i := 3) C dL_law_556 rfl rfl ?_
  refine V_iload C dL_law_557 rfl ?_
  refine V_pcallS (n := 6) C (w_areAlike hlt t2 hd.2.1 hw1 hw hg1 hg) dL_law_559 gL_law_L_areAlike rfl (by decide +kernel) rfl rfl (by exact Nat.le_of_ble_eq_true rfl) ⟨by dsimp only [rmk, room_1]; omega, by dsimp only [rmk, room_1]; omega⟩ ⟨Nat.le_of_ble_eq_true rfl, Nat.le_of_ble_eq_true rfl⟩ hz SZl.moves hsz (fun v9 h9 hr9 => ?_)
  obtain ⟨rfl, A3, B3, qA, qB, t3⟩ := hr9
  have hR3 := hd.2.1.bq qA qB
  have ha := hR3.again (hdes.bq hd.2.1 qA)
  refine V_if_eq (tgt := 591) C dL_law_562 (by decide) (fun z9 => absurd z9 (by decide)) (fun _ => ?_)
  refine V_aload_n (i := 1) C dL_law_565 rfl rfl ?_
  refine V_iconst (v := 2) C dL_law_566 (by decide) ?_
  refine V_iconst (v := 1) C dL_law_567 (by decide) ?_
  refine V_iconst (v := 0) C dL_law_568 (by decide) ?_
  refine V_ccallS (n := 4) C (ta_design hlt t3) dL_law_569 gL_law_L_does rfl (by decide +kernel) rfl rfl (by exact Nat.le_of_ble_eq_true rfl) ⟨by dsimp only [rmk, room_1]; omega, by dsimp only [rmk, room_1]; omega⟩ ⟨Nat.le_of_ble_eq_true rfl, Nat.le_of_ble_eq_true rfl⟩ hz SZl.moves hsz (fun v9 h9 hr9 => ?_)
  obtain ⟨rfl, t4⟩ := hr9
  have hf := ha.2.1.fill0 ((xdim.N t4.ci.1.1.1 (p := 0) (by rw [ha.2.1.1.1]; decide)).2)
  refine V_iload C dL_law_572 rfl ?_
  refine V_icmp_ne (tgt := 591) C dL_law_574 (by decide) (fun z9 => absurd z9 (fun z => z ha.1)) (fun _ => ?_)
  refine V_aload_n (i := 1) C dL_law_577 rfl rfl ?_
  refine V_iconst (v := 1) C dL_law_578 (by decide) ?_
  refine V_iconst (v := 0) C dL_law_579 (by decide) ?_
  refine V_iconst (v := 0) C dL_law_580 (by decide) ?_
  refine V_ccallS (n := 4) C (ta_fill hlt t4) dL_law_581 gL_law_L_does rfl (by decide +kernel) rfl rfl (by exact Nat.le_of_ble_eq_true rfl) ⟨by dsimp only [rmk, room_1]; omega, by dsimp only [rmk, room_1]; omega⟩ ⟨Nat.le_of_ble_eq_true rfl, Nat.le_of_ble_eq_true rfl⟩ hz SZl.moves hsz (fun v9 h9 hr9 => ?_)
  obtain ⟨rfl, t5⟩ := hr9
  refine V_if_lt (tgt := 591) C dL_law_584 (by decide) (fun z9 => absurd z9 (Int32.not_lt.mpr hf.1)) (fun _ => ?_)
  refine V_iconst (v := 1) C dL_law_587 (by decide) ?_
  refine V_goto (tgt := 592) C dL_law_588 (by decide) ?_
  refine V_istore6 C dL_law_592 (by decide) ?_
  exact V_wid (k2 := ce + 2200) (n2 := sl + 16500) (by dsimp only [rmk]; omega) (by dsimp only [rmk]; omega) (V_wk (by simp [lle]) (kx _ _ _ n t5 hf.2.1 ((((hf.2.2.trans ha.2.2).trans qA.nl.1).trans hd.2.2).trans hn) hn10))
set_option maxHeartbeats 16000000 in
set_option maxRecDepth 100000 in
theorem ca_tail (C : Cx p9 s9 m9 meth9 c9 cL_law 16 args9 wsL_law RL D cA bs) (hlt : l.stackTraces = false) (hz : hZ bs s9 s9.heap) (hsz : SZl s9) (t : TW cA q r A B h) (hR : RW w g A B) (hn : xnl A = n) (hn10 : n ≤ 10) (hw1 : 1 ≤ w) (hw : w ≤ 8) (hg1 : 1 ≤ g) (hg : g ≤ 8) (hk : k < 44) (hce : ce + 2600 ≤ 1200104) (hsl : sl + 19500 ≤ 5501314) (kt : ∀ (h2 : hE) (A2 B2 : XS), TW cA q r A2 B2 h2 → RW w g A2 B2 → xnl A2 = n → V p9 l e9 room_1 s9 m9 args9 below9 meth9 c9 D bs 16 h2 (ce + 2600) (sl + 19500) Q 152 [some (.ref b), some (.ref q), some (.ref r), some (.int (nI w)), some (.int (nI g)), some (.int (nI n)), some (.int 1), some (.int (nI (k + 1))), none, none, none, none, none, none, none, none] []) : V p9 l e9 room_1 s9 m9 args9 below9 meth9 c9 D bs 16 h ce sl Q 594 [some (.ref b), some (.ref q), some (.ref r), some (.int (nI w)), some (.int (nI g)), some (.int (nI n)), some (.int 1), some (.int (nI k)), none, none, none, none, none, none, none, none] [] := by
  refine V_iload C dL_law_594 rfl ?_
  refine V_if_eq (tgt := 616) C dL_law_596 (by decide) (fun z9 => absurd z9 (by decide)) (fun _ => ?_)
  refine V_aload_n (i := 1) C dL_law_599 rfl rfl ?_
  refine V_aload_n (i := 2) C dL_law_600 rfl rfl ?_
  refine V_iconst (v := 1) C dL_law_601 (by decide) ?_
  refine V_iconst (v := 0) C dL_law_602 (by decide) ?_
  refine V_iload_n (i := 3) C dL_law_603 rfl rfl ?_
  refine V_iload C dL_law_604 rfl ?_
  refine V_pcallS (n := 6) C (w_areAlike hlt t hR hw1 hw hg1 hg) dL_law_606 gL_law_L_areAlike rfl (by decide +kernel) rfl rfl (by exact Nat.le_of_ble_eq_true rfl) ⟨by dsimp only [rmk, room_1]; omega, by dsimp only [rmk, room_1]; omega⟩ ⟨Nat.le_of_ble_eq_true rfl, Nat.le_of_ble_eq_true rfl⟩ hz SZl.moves hsz (fun v9 h9 hr9 => ?_)
  obtain ⟨rfl, A3, B3, qA, qB, t3⟩ := hr9
  have hR3 := hR.bq qA qB
  refine V_if_eq (tgt := 616) C dL_law_609 (by decide) (fun z9 => absurd z9 (by decide)) (fun _ => ?_)
  refine V_iconst (v := 1) C dL_law_612 (by decide) ?_
  refine V_goto (tgt := 617) C dL_law_613 (by decide) ?_
  refine V_istore6 C dL_law_617 (by decide) ?_
  refine V_iconst (v := 0) C dL_law_619 (by decide) ?_
  refine V_istore14 C dL_law_620 (by decide) ?_
  refine V_wid (k2 := ce + 2056 + 40 * 0) (n2 := sl + 15420 + 300 * 0) (by dsimp only [rmk]; omega) (by dsimp only [rmk]; omega) ?_
  refine V_forC (fun j => ce + 2056 + 40 * j) (fun j => sl + 15420 + 300 * j) n (fun j h4 ls4 => TW cA q r A3 B3 h4 ∧ ls4 = [some (.ref b), some (.ref q), some (.ref r), some (.int (nI w)), some (.int (nI g)), some (.int (nI n)), some (.int 1), some (.int (nI k)), none, none, none, none, none, none, some (.int (nI j)), none]) ?_ ?_ 0 (Nat.zero_le _) ⟨t3, rfl⟩
  · rintro j h4 ls4 hj ⟨t4, rfl⟩ ih
    refine V_iload C dL_law_622 rfl ?_
    refine V_iload C dL_law_624 rfl ?_
    refine V_icmp_ge (tgt := 690) C dL_law_626 (by decide) (fun z9 => absurd z9 (nI_ge hj (by omega))) (fun _ => ?_)
    refine V_iload C dL_law_629 rfl ?_
    refine V_if_eq (tgt := 690) C dL_law_631 (by decide) (fun z9 => absurd z9 (by decide)) (fun _ => ?_)
    refine V_iconst (v := 0) C dL_law_634 (by decide) ?_
    refine V_istore15 C dL_law_635 (by decide) ?_
    refine V_wid (k2 := ce + 2056 + 40 * j + 8 * 0) (n2 := sl + 15420 + 300 * j + 60 * 0) (by omega) (by omega) ?_
    refine V_forC (fun m => ce + 2056 + 40 * j + 8 * m) (fun m => sl + 15420 + 300 * j + 60 * m) 5 (fun m h5 ls5 => TW cA q r A3 B3 h5 ∧ ls5 = [some (.ref b), some (.ref q), some (.ref r), some (.int (nI w)), some (.int (nI g)), some (.int (nI n)), some (.int 1), some (.int (nI k)), none, none, none, none, none, none, some (.int (nI j)), some (.int (nI m))]) ?_ ?_ 0 (Nat.zero_le _) ⟨t4, rfl⟩
    · rintro m h5 ls5 hm ⟨t5, rfl⟩ ih2
      refine V_iload C dL_law_637 rfl ?_
      refine V_iconst (v := 5) C dL_law_639 (by decide) ?_
      refine V_icmp_ge (tgt := 684) C dL_law_640 (by decide) (fun z9 => absurd z9 (nI_ge (b := 5) hm (by decide))) (fun _ => ?_)
      refine V_iload C dL_law_643 rfl ?_
      refine V_if_eq (tgt := 684) C dL_law_645 (by decide) (fun z9 => absurd z9 (by decide)) (fun _ => ?_)
      refine V_aload_n (i := 1) C dL_law_648 rfl rfl ?_
      refine V_bipush (v := 7) C dL_law_649 (by decide) ?_
      refine V_iload C dL_law_651 rfl ?_
      refine V_iload C dL_law_653 rfl ?_
      refine V_ccallS (n := 4) C (ta_ofLot hlt t5) dL_law_655 gL_law_L_does rfl (by decide +kernel) rfl rfl (by exact Nat.le_of_ble_eq_true rfl) ⟨by dsimp only [rmk, room_1]; omega, by dsimp only [rmk, room_1]; omega⟩ ⟨Nat.le_of_ble_eq_true rfl, Nat.le_of_ble_eq_true rfl⟩ hz SZl.moves hsz (fun v9 h9 hr9 => ?_)
      obtain ⟨rfl, t6⟩ := hr9
      refine V_aload_n (i := 2) C dL_law_658 rfl rfl ?_
      refine V_bipush (v := 7) C dL_law_659 (by decide) ?_
      refine V_iload C dL_law_661 rfl ?_
      refine V_iload C dL_law_663 rfl ?_
      refine V_ccallS (n := 4) C (tb_ofLot hlt t6) dL_law_665 gL_law_L_does rfl (by decide +kernel) rfl rfl (by exact Nat.le_of_ble_eq_true rfl) ⟨by dsimp only [rmk, room_1]; omega, by dsimp only [rmk, room_1]; omega⟩ ⟨Nat.le_of_ble_eq_true rfl, Nat.le_of_ble_eq_true rfl⟩ hz SZl.moves hsz (fun v9 h9 hr9 => ?_)
      obtain ⟨rfl, t7⟩ := hr9
      refine V_icmp_ne (tgt := 675) C dL_law_668 (by decide) (fun z9 => absurd z9 (fun z => z hR3.ofL)) (fun _ => ?_)
      refine V_iconst (v := 1) C dL_law_671 (by decide) ?_
      refine V_goto (tgt := 676) C dL_law_672 (by decide) ?_
      refine V_istore6 C dL_law_676 (by decide) ?_
      refine V_iinc15 (v := nI (m + 1)) C dL_law_678 (nI_1 _) (by decide) ?_
      refine V_goto (tgt := 637) C dL_law_681 (by decide) ?_
      exact V_wid (k2 := ce + 2056 + 40 * j + 8 * (m + 1)) (n2 := sl + 15420 + 300 * j + 60 * (m + 1)) (by dsimp only [rmk]; omega) (by dsimp only [rmk]; omega) (ih2 _ _ ⟨t7, rfl⟩)
    · rintro h5 ls5 ⟨t5, rfl⟩
      refine V_iload C dL_law_637 rfl ?_
      refine V_iconst (v := 5) C dL_law_639 (by decide) ?_
      refine V_icmp_ge (tgt := 684) C dL_law_640 (by decide) (fun _ => ?_) (fun z9 => absurd (nI_le (a := 5) (b := 5) (Nat.le_refl _) (by decide)) z9)
      refine V_iinc14 (v := nI (j + 1)) C dL_law_684 (nI_1 _) (by decide) ?_
      refine V_goto (tgt := 622) C dL_law_687 (by decide) ?_
      exact V_wid (k2 := ce + 2056 + 40 * (j + 1)) (n2 := sl + 15420 + 300 * (j + 1)) (by omega) (by omega) (V_wk (by simp [lle]) (ih _ _ ⟨t5, rfl⟩))
  · rintro h4 ls4 ⟨t4, rfl⟩
    refine V_iload C dL_law_622 rfl ?_
    refine V_iload C dL_law_624 rfl ?_
    refine V_icmp_ge (tgt := 690) C dL_law_626 (by decide) (fun _ => ?_) (fun z9 => absurd (nI_le (Nat.le_refl _) (by omega)) z9)
    refine V_iinc7 (v := nI (k + 1)) C dL_law_690 (nI_1 _) (by decide) ?_
    refine V_goto (tgt := 152) C dL_law_693 (by decide) ?_
    exact V_wid (k2 := ce + 2600) (n2 := sl + 19500) (by omega) (by omega) (V_wk (by simp [lle]) (kt _ _ _ t4 hR3 (qA.nl.1.trans hn)))
set_option maxHeartbeats 16000000 in
set_option maxRecDepth 100000 in
theorem ca_step (C : Cx p9 s9 m9 meth9 c9 cL_law 16 args9 wsL_law RL D cA bs) (hlt : l.stackTraces = false) (hz : hZ bs s9 s9.heap) (hsz : SZl s9) (t : TW cA q r A B h) (hR : RW w g A B) (hn : xnl A = n) (hn10 : n ≤ 10) (hw1 : 1 ≤ w) (hw : w ≤ 8) (hg1 : 1 ≤ g) (hg : g ≤ 8) (hX : va_X b L xs s9 s9.heap) (hbl : b < s9.heap.size) (hbA : ¬ bs ≤ b) (hL : L ≤ 2560) (hk : k < 44) (hce : ce + 4800 ≤ 1200104) (hsl : sl + 36000 ≤ 5501314) (kt : ∀ (h2 : hE) (A2 B2 : XS) (n2 : Nat), TW cA q r A2 B2 h2 → RW w g A2 B2 → xnl A2 = n2 → n2 ≤ 10 → V p9 l e9 room_1 s9 m9 args9 below9 meth9 c9 D bs 16 h2 (ce + 4800) (sl + 36000) Q 152 [some (.ref b), some (.ref q), some (.ref r), some (.int (nI w)), some (.int (nI g)), some (.int (nI n2)), some (.int 1), some (.int (nI (k + 1))), none, none, none, none, none, none, none, none] []) : V p9 l e9 room_1 s9 m9 args9 below9 meth9 c9 D bs 16 h ce sl Q 152 [some (.ref b), some (.ref q), some (.ref r), some (.int (nI w)), some (.int (nI g)), some (.int (nI n)), some (.int 1), some (.int (nI k)), none, none, none, none, none, none, none, none] [] := by
  have kx : ∀ (h2 : hE) (A2 B2 : XS) (n2 : Nat), TW cA q r A2 B2 h2 → RW w g A2 B2 → xnl A2 = n2 → n2 ≤ 10 → V p9 l e9 room_1 s9 m9 args9 below9 meth9 c9 D bs 16 h2 (ce + 2200) (sl + 16500) Q 594 [some (.ref b), some (.ref q), some (.ref r), some (.int (nI w)), some (.int (nI g)), some (.int (nI n2)), some (.int 1), some (.int (nI k)), none, none, none, none, none, none, none, none] [] := fun h2 A2 B2 n2 u1 u2 u3 u4 => ca_tail C hlt hz hsz u1 u2 u3 u4 hw1 hw hg1 hg hk (by omega) (by omega) (fun h3 A3 B3 v1 v2 v3 => kt h3 A3 B3 n2 v1 v2 v3 u4)
  have hnw : ¬ nI w = 0 := nI_ne0 hw1 (by omega)
  have hng : ¬ nI g = 0 := nI_ne0 hg1 (by omega)
  refine V_iload C dL_law_152 rfl ?_
  refine V_bipush (v := 44) C dL_law_154 (by decide) ?_
  refine V_icmp_ge (tgt := 696) C dL_law_156 (by decide) (fun z9 => absurd z9 (nI_ge (b := 44) hk (by decide))) (fun _ => ?_)
  refine V_iload C dL_law_159 rfl ?_
  refine V_if_eq (tgt := 696) C dL_law_161 (by decide) (fun z9 => absurd z9 (by decide)) (fun _ => ?_)
  refine V_aload_n (i := 0) C dL_law_164 rfl rfl ?_
  refine V_iload C dL_law_165 rfl ?_
  refine V_dcallS (n := 2) C (w_drawn hL (k := k) (by omega)) dL_law_167 gL_law_L_drawn rfl (by decide +kernel) rfl rfl (by exact Nat.le_of_ble_eq_true rfl) ⟨by dsimp only [rmk, room_1]; omega, by dsimp only [rmk, room_1]; omega⟩ ⟨Nat.le_of_ble_eq_true rfl, Nat.le_of_ble_eq_true rfl⟩ hX hbl hbA (fun v9 h9 hr9 => ?_)
  obtain ⟨⟨z, hz30, rfl⟩, rfl⟩ := hr9
  have hi := Nat.mod_lt (z / 9) hw1
  have hj := Nat.mod_lt (z / 9 / 8) hg1
  have htn := Nat.mod_lt (z / 9 / 64) (show 0 < 256 by decide)
  refine V_istore8 C dL_law_170 (by decide) ?_
  refine V_iload C dL_law_172 rfl ?_
  refine V_bipush (v := 9) C dL_law_174 (by decide) ?_
  refine V_idiv C dL_law_176 (by decide) ?_
  rw [show nI (z) / 9 = nI ((z) / 9) from pk_div (a := z) (d := 9) (by omega) (by decide) (by decide)]
  refine V_istore9 C dL_law_177 (by decide) ?_
  refine V_iload C dL_law_179 rfl ?_
  refine V_bipush (v := 9) C dL_law_181 (by decide) ?_
  refine V_irem C dL_law_183 (by decide) ?_
  rw [show nI (z) - nI (z) / 9 * 9 = nI ((z) % 9) from pk_rem (a := z) (d := 9) (by omega) (by decide) (by decide)]
  refine V_istore10 C dL_law_184 (by decide) ?_
  refine V_iload C dL_law_186 rfl ?_
  refine V_iload_n (i := 3) C dL_law_188 rfl rfl ?_
  refine V_irem C dL_law_189 hnw ?_
  rw [show nI (z / 9) - nI (z / 9) / nI w * nI w = nI ((z / 9) % w) from pk_rem (a := z / 9) (d := w) (by omega) hw1 (by omega)]
  refine V_istore11 C dL_law_190 (by decide) ?_
  refine V_iload C dL_law_192 rfl ?_
  refine V_bipush (v := 8) C dL_law_194 (by decide) ?_
  refine V_idiv C dL_law_196 (by decide) ?_
  rw [show nI (z / 9) / 8 = nI ((z / 9) / 8) from pk_div (a := z / 9) (d := 8) (by omega) (by decide) (by decide)]
  refine V_iload C dL_law_197 rfl ?_
  refine V_irem C dL_law_199 hng ?_
  rw [show nI (z / 9 / 8) - nI (z / 9 / 8) / nI g * nI g = nI ((z / 9 / 8) % g) from pk_rem (a := z / 9 / 8) (d := g) (by omega) hg1 (by omega)]
  refine V_istore12 C dL_law_200 (by decide) ?_
  refine V_iload C dL_law_202 rfl ?_
  refine V_bipush (v := 64) C dL_law_204 (by decide) ?_
  refine V_idiv C dL_law_206 (by decide) ?_
  rw [show nI (z / 9) / 64 = nI ((z / 9) / 64) from pk_div (a := z / 9) (d := 64) (by omega) (by decide) (by decide)]
  refine V_sipush (v := 256) C dL_law_207 (by decide) ?_
  refine V_irem C dL_law_210 (by decide) ?_
  rw [show nI (z / 9 / 64) - nI (z / 9 / 64) / 256 * 256 = nI ((z / 9 / 64) % 256) from pk_rem (a := z / 9 / 64) (d := 256) (by omega) (by decide) (by decide)]
  refine V_istore13 C dL_law_211 (by decide) ?_
  refine V_iload C dL_law_213 rfl ?_
  refine V_iconst (v := 2) C dL_law_215 (by decide) ?_
  refine V_icmp_ge (tgt := 305) C dL_law_216 (by decide) (fun c216 => ?_) (fun c216 => ?_)
  · refine V_iload C dL_law_305 rfl ?_
    refine V_iconst (v := 4) C dL_law_307 (by decide) ?_
    refine V_icmp_ge (tgt := 348) C dL_law_308 (by decide) (fun c308 => ?_) (fun c308 => ?_)
    · refine V_iload C dL_law_348 rfl ?_
      refine V_iconst (v := 4) C dL_law_350 (by decide) ?_
      refine V_icmp_ne (tgt := 415) C dL_law_351 (by decide) (fun c351 => ?_) (fun c351 => ?_)
      · refine V_iload C dL_law_415 rfl ?_
        refine V_iconst (v := 5) C dL_law_417 (by decide) ?_
        refine V_icmp_ne (tgt := 531) C dL_law_418 (by decide) (fun c418 => ?_) (fun c418 => ?_)
        · exact V_wid (k2 := ce) (n2 := sl) (Nat.le_refl _) (Nat.le_refl _) (ca_design C hlt hz hsz t hR hn hn10 hw1 hw hg1 hg (by omega) hi hj htn (by omega) (by omega) kx)
        · refine V_iload C dL_law_421 rfl ?_
          refine V_iconst (v := 1) C dL_law_423 (by decide) ?_
          refine V_icmp_le (tgt := 531) C dL_law_424 (by decide) (fun c424 => ?_) (fun c424 => ?_)
          · exact V_wid (k2 := ce) (n2 := sl) (Nat.le_refl _) (Nat.le_refl _) (ca_design C hlt hz hsz t hR hn hn10 hw1 hw hg1 hg (by omega) hi hj htn (by omega) (by omega) kx)
          · have c424 : 2 ≤ n := Nat.not_lt.mp (fun z => c424 (nI_le (b := 1) (by omega) (by decide)))
            exact V_wid (k2 := ce) (n2 := sl) (Nat.le_refl _) (Nat.le_refl _) (ca_share C hlt hz hsz t hR hn hn10 hw1 hw hg1 hg (by omega) hi hj htn (by omega) (by omega) c424 kx)
      · exact V_wid (k2 := ce) (n2 := sl) (Nat.le_refl _) (Nat.le_refl _) (ca_old C hlt hz hsz t hR hn hn10 hw1 hw hg1 hg (by omega) hi hj htn (by omega) (by omega) kx)
    · exact V_wid (k2 := ce) (n2 := sl) (Nat.le_refl _) (Nat.le_refl _) (ca_cell C hlt hz hsz t hR hn hn10 hw1 hw hg1 hg (by omega) hi hj htn (by omega) (by omega) kx)
  · refine V_iload C dL_law_219 rfl ?_
    refine V_bipush (v := 10) C dL_law_221 (by decide) ?_
    refine V_icmp_ge (tgt := 305) C dL_law_223 (by decide) (fun c223 => ?_) (fun c223 => ?_)
    · refine V_iload C dL_law_305 rfl ?_
      refine V_iconst (v := 4) C dL_law_307 (by decide) ?_
      refine V_icmp_ge (tgt := 348) C dL_law_308 (by decide) (fun c308 => ?_) (fun c308 => ?_)
      · refine V_iload C dL_law_348 rfl ?_
        refine V_iconst (v := 4) C dL_law_350 (by decide) ?_
        refine V_icmp_ne (tgt := 415) C dL_law_351 (by decide) (fun c351 => ?_) (fun c351 => ?_)
        · refine V_iload C dL_law_415 rfl ?_
          refine V_iconst (v := 5) C dL_law_417 (by decide) ?_
          refine V_icmp_ne (tgt := 531) C dL_law_418 (by decide) (fun c418 => ?_) (fun c418 => ?_)
          · exact V_wid (k2 := ce) (n2 := sl) (Nat.le_refl _) (Nat.le_refl _) (ca_design C hlt hz hsz t hR hn hn10 hw1 hw hg1 hg (by omega) hi hj htn (by omega) (by omega) kx)
          · refine V_iload C dL_law_421 rfl ?_
            refine V_iconst (v := 1) C dL_law_423 (by decide) ?_
            refine V_icmp_le (tgt := 531) C dL_law_424 (by decide) (fun c424 => ?_) (fun c424 => ?_)
            · exact V_wid (k2 := ce) (n2 := sl) (Nat.le_refl _) (Nat.le_refl _) (ca_design C hlt hz hsz t hR hn hn10 hw1 hw hg1 hg (by omega) hi hj htn (by omega) (by omega) kx)
            · have c424 : 2 ≤ n := Nat.not_lt.mp (fun z => c424 (nI_le (b := 1) (by omega) (by decide)))
              exact V_wid (k2 := ce) (n2 := sl) (Nat.le_refl _) (Nat.le_refl _) (ca_share C hlt hz hsz t hR hn hn10 hw1 hw hg1 hg (by omega) hi hj htn (by omega) (by omega) c424 kx)
        · exact V_wid (k2 := ce) (n2 := sl) (Nat.le_refl _) (Nat.le_refl _) (ca_old C hlt hz hsz t hR hn hn10 hw1 hw hg1 hg (by omega) hi hj htn (by omega) (by omega) kx)
      · exact V_wid (k2 := ce) (n2 := sl) (Nat.le_refl _) (Nat.le_refl _) (ca_cell C hlt hz hsz t hR hn hn10 hw1 hw hg1 hg (by omega) hi hj htn (by omega) (by omega) kx)
    · have c223 : n < 10 := Nat.not_le.mp (fun z => c223 (nI_le (a := 10) z (by omega)))
      exact V_wid (k2 := ce) (n2 := sl) (Nat.le_refl _) (Nat.le_refl _) (ca_lot C hlt hz hsz t hR hn hn10 hw1 hw hg1 hg (by omega) hi hj htn (by omega) (by omega) c223 kx)
end CASES
