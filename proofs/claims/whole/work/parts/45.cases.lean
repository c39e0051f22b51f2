/-! the law's cases -/
def LW (cA : Nat → ClassId) (x mm o M : Nat) (X : XS) (th : Int32) (h : hE) : Prop := ∃ Z ta f A, XR cA Z X ta h ∧ tyv Z X ta ∧ CI M X ∧ MW cA A X th h ∧ Z 0 0 = x ∧ A 0 = mm ∧ h o = some (lar (cA 3) f)
theorem tyv.HT {Z : Nat → Nat → Nat} {X : XS} {ta : Nat → Nat → Option Nat} (t : tyv Z X ta) : HT X := fun c hc => (t c hc).2.1
theorem cod_0 {a b : String} {o : Option String} (h : cod a b o = 0) : o = none := by
  unfold cod at h
  cases o with
  | none => rfl
  | some E =>
    dsimp only at h
    split at h
    · exact absurd h (by decide)
    · split at h
      · exact absurd h (by decide)
      · exact absurd h (by decide)
theorem lg_self (x : Int64) : lg_cmp x x = 0 := by
  unfold lg_cmp
  simp
theorem hi1 (i : Nat) : nI i + 1 = nI (i + 1) := nI_1 i
theorem hi2 (i : Nat) : nI i + 2 = nI (i + 2) := by rw [show (2 : Int32) = nI 2 from rfl, nI_add]
theorem hi3 (i : Nat) : nI i + 3 = nI (i + 3) := by rw [show (3 : Int32) = nI 3 from rfl, nI_add]
theorem hi4 (i : Nat) : nI i + 4 = nI (i + 4) := by rw [show (4 : Int32) = nI 4 from rfl, nI_add]
section CASES
variable {l : Launch} {D : va_G} {cA : Nat → ClassId} {bs : Nat} {X : XS} {h : hE} {M x mm o b L i ce sl : Nat} {xs : Nat → Int32} {th : Int32}
variable {p9 : Program} {e9 : Env} {s9 : State} {m9 : MethodId} {args9 : Array Value} {below9 : List Frame} {meth9 : Method} {c9 : Code} {Q : State → Prop}
theorem same_ofCell {a b c d : Int32} : (sp_ofCell X a b c d).2.2 = X := by
  unfold sp_ofCell
  split
  · first | rfl | (split <;> rfl)
  · rfl
theorem same_edge {x : Int32} : (sp_edge X x).2.2 = X := by
  unfold sp_edge
  split
  · first | rfl | (split <;> rfl)
  · rfl
theorem same_ofLot {a d : Int32} : (sp_ofLot X a d).2.2 = X := by
  unfold sp_ofLot
  split
  · first | rfl | (split <;> rfl)
  · rfl
theorem same_ofPicture {x d : Int32} : (sp_ofPic X x d).2.2 = X := by
  unfold sp_ofPic
  split
  · first | rfl | (split <;> rfl)
  · rfl
theorem same_ofCrew {a d : Int32} : (sp_ofCrew X a d).2.2 = X := by
  unfold sp_ofCrew
  split
  · first | rfl | (split <;> rfl)
  · rfl
set_option maxHeartbeats 4000000 in
set_option maxRecDepth 100000 in
theorem lc_lot (C : Cx p9 s9 m9 meth9 c9 cL_law 7 args9 wsL_law RL D cA bs) (hlt : l.stackTraces = false) (hz : hZ bs s9 s9.heap) (hsz : SZl s9) (hX : va_X b L xs s9 s9.heap) (hbl : b < s9.heap.size) (hbA : ¬ bs ≤ b) (hL : L ≤ 2560) (hi : i + 5 ≤ L) (hce : ce + 80 ≤ 601024) (hsl : sl + 900 ≤ 7293034) (hw : LW cA x mm o M X th h) (hM : M + 100 < 2 ^ 30) (k : ∀ h2 X2 th2, LW cA x mm o (M + 100) X2 th2 h2 → V p9 l e9 room_1 s9 m9 args9 below9 meth9 c9 D bs 7 h2 (ce + 80) (sl + 900) Q 1544 [some (.ref b), some (.ref x), some (.ref mm), some (.ref o), some (.int (nI i)), none, none] []) : V p9 l e9 room_1 s9 m9 args9 below9 meth9 c9 D bs 7 h ce sl Q 132 [some (.ref b), some (.ref x), some (.ref mm), some (.ref o), some (.int (nI i)), none, none] [] := by
  obtain ⟨Z, ta, f, A, r, t, hI, ⟨I, F, rm, hP⟩, rfl, rfl, ho⟩ := hw
  have hd := hI.1.1
  have ht := t.HT
  by_cases hb4 : xs (i + 4) = 0
  · have hd4 : (0 : Int32) = 0 ∨ (0 : Int32) = 1 := Or.inl rfl
    refine V_aload_n (i := 1) C dL_law_132 rfl rfl ?_
    refine V_aload_n (i := 0) C dL_law_133 rfl rfl ?_
    refine V_iload C dL_law_134 rfl ?_
    refine V_iconst (v := 1) C dL_law_136 (by decide) ?_
    refine V_iadd C dL_law_137 ?_
    refine V_scr C hX hbl hbA dL_law_138 (hi1 i) (by omega) hL rfl ?_
    refine V_aload_n (i := 0) C dL_law_139 rfl rfl ?_
    refine V_iload C dL_law_140 rfl ?_
    refine V_iconst (v := 2) C dL_law_142 (by decide) ?_
    refine V_iadd C dL_law_143 ?_
    refine V_scr C hX hbl hbA dL_law_144 (hi2 i) (by omega) hL rfl ?_
    refine V_aload_n (i := 0) C dL_law_145 rfl rfl ?_
    refine V_iload C dL_law_146 rfl ?_
    refine V_iconst (v := 3) C dL_law_148 (by decide) ?_
    refine V_iadd C dL_law_149 ?_
    refine V_scr C hX hbl hbA dL_law_150 (hi3 i) (by omega) hL rfl ?_
    refine V_aload_n (i := 0) C dL_law_151 rfl rfl ?_
    refine V_iload C dL_law_152 rfl ?_
    refine V_iconst (v := 4) C dL_law_154 (by decide) ?_
    refine V_iadd C dL_law_155 ?_
    refine V_scr C hX hbl hbA dL_law_156 (hi4 i) (by omega) hL rfl ?_
    refine V_if_eq (tgt := 164) C dL_law_157 (by decide) (fun _ => ?_) (fun z9 => absurd hb4 z9)
    refine V_iconst (v := 0) C dL_law_164 (by decide) ?_
    refine V_aload_n (i := 3) C dL_law_165 rfl rfl ?_
    refine V_ccallS (n := 6) C (w_lot (a := (xs (i + 1))) (b := (xs (i + 2))) (c := (xs (i + 3))) (d := 0) hlt r t hI.1 ho hd4) dL_law_166 gL_law_L_lot rfl (by decide +kernel) rfl rfl (by exact Nat.le_of_ble_eq_true rfl) ⟨by show ce + 4 ≤ 601024; omega, by show sl + 30 ≤ 7293034; omega⟩ ⟨Nat.le_of_ble_eq_true rfl, Nat.le_of_ble_eq_true rfl⟩ hz SZl.moves hsz (fun v9 h9 hr9 => ?_)
    obtain ⟨rfl, ⟨Z2, ta2, r2, t2, z2⟩, ⟨f2, ho2, hf2⟩, fr2⟩ := hr9
    have rm2 := rm.ofr ho fr2
    have m0 := rm2.m0
    refine V_istore5 C dL_law_169 (by decide) ?_
    refine V_aload_n (i := 2) C dL_law_171 rfl rfl ?_
    refine V_aload_n (i := 0) C dL_law_172 rfl rfl ?_
    refine V_iload C dL_law_173 rfl ?_
    refine V_iconst (v := 1) C dL_law_175 (by decide) ?_
    refine V_iadd C dL_law_176 ?_
    refine V_scr C hX hbl hbA dL_law_177 (hi1 i) (by omega) hL rfl ?_
    refine V_aload_n (i := 0) C dL_law_178 rfl rfl ?_
    refine V_iload C dL_law_179 rfl ?_
    refine V_iconst (v := 2) C dL_law_181 (by decide) ?_
    refine V_iadd C dL_law_182 ?_
    refine V_scr C hX hbl hbA dL_law_183 (hi2 i) (by omega) hL rfl ?_
    refine V_aload_n (i := 0) C dL_law_184 rfl rfl ?_
    refine V_iload C dL_law_185 rfl ?_
    refine V_iconst (v := 3) C dL_law_187 (by decide) ?_
    refine V_iadd C dL_law_188 ?_
    refine V_scr C hX hbl hbA dL_law_189 (hi3 i) (by omega) hL rfl ?_
    refine V_aload_n (i := 0) C dL_law_190 rfl rfl ?_
    refine V_iload C dL_law_191 rfl ?_
    refine V_iconst (v := 4) C dL_law_193 (by decide) ?_
    refine V_iadd C dL_law_194 ?_
    refine V_scr C hX hbl hbA dL_law_195 (hi4 i) (by omega) hL rfl ?_
    refine V_if_eq (tgt := 203) C dL_law_196 (by decide) (fun _ => ?_) (fun z9 => absurd hb4 z9)
    refine V_iconst (v := 0) C dL_law_203 (by decide) ?_
    refine V_callV (n := 4) C (q_lot (a := (xs (i + 1))) (b := (xs (i + 2))) (c := (xs (i + 3))) (d := 0) rm2 hd hP hd4) dL_law_204 gL_law_X5_lot rfl m0 rfl (by decide +kernel) rfl rfl (by exact Nat.le_of_ble_eq_true rfl) ⟨by show ce + 4 ≤ 601024; omega, by show sl + 30 ≤ 7293034; omega⟩ ⟨Nat.le_of_ble_eq_true rfl, Nat.le_of_ble_eq_true rfl⟩ (fun v9 h9 hr9 => ?_)
    obtain ⟨⟨bv, rfl, hb⟩, ⟨I3, F3, rm3, hP3⟩, f3⟩ := hr9
    have m0 := rm3.m0
    have ho3 := lar_mfr ho2 f3
    refine V_istore6 C dL_law_207 (by decide) ?_
    refine V_aload_n (i := 2) C dL_law_209 rfl rfl ?_
    refine V_callV (n := 0) C (r_thrown rm3) dL_law_210 gL_law_X5_thrown rfl m0 rfl (by decide +kernel) rfl rfl (by exact Nat.le_of_ble_eq_true rfl) ⟨by show ce + 4 ≤ 601024; omega, by show sl + 30 ≤ 7293034; omega⟩ ⟨Nat.le_of_ble_eq_true rfl, Nat.le_of_ble_eq_true rfl⟩ (fun v9 h9 hr9 => ?_)
    obtain ⟨rfl, z9⟩ := hr9
    have z9 := z9.symm
    subst z9
    refine V_iload C dL_law_213 rfl ?_
    refine V_icmp_eq (tgt := 220) C dL_law_215 (by decide) (fun _ => ?_) (fun z9 => absurd rfl z9)
    refine V_iload C dL_law_220 rfl ?_
    refine V_if_ne (tgt := 237) C dL_law_222 (by decide) (fun c222 => ?_) (fun c222 => ?_)
    · refine V_goto (tgt := 1544) C dL_law_237 (by decide) ?_
      exact V_wid (k2 := ce + 80) (n2 := sl + 900) (by show ce + 4 ≤ ce + 80; omega) (by show sl + 30 ≤ sl + 900; omega) (V_wk (by simp [lle]) (k _ (sp_lot X (xs (i + 1)) (xs (i + 2)) (xs (i + 3)) 0).2.2 _ ⟨Z2, ta2, f2, A, r2.mfr f3, t2, (i_lot hI hd4).mono (by omega), ⟨I3, F3, rm3, hP3⟩, z2, rfl, ho3⟩))
    · have hn := cod_0 c222
      have hb := hb hn
      have hf2 := hf2 hn
      refine V_aload_n (i := 3) C dL_law_225 rfl rfl ?_
      refine V_iconst (v := 0) C dL_law_226 (by decide) ?_
      refine V_lald C dL_law_227 ho3 (vp_in_iff.mpr ⟨by decide, by decide⟩) ?_
      refine V_iload C dL_law_228 rfl ?_
      refine V_i2l C dL_law_230 rfl ?_
      refine V_lcmp C dL_law_231 ?_
      refine V_if_eq (tgt := 237) C dL_law_232 (by decide) (fun _ => ?_) (fun z9 => absurd (by rw [hb]; exact (congrArg (fun z => lg_cmp z _) hf2).trans (lg_self _)) z9)
      refine V_goto (tgt := 1544) C dL_law_237 (by decide) ?_
      exact V_wid (k2 := ce + 80) (n2 := sl + 900) (by show ce + 4 ≤ ce + 80; omega) (by show sl + 30 ≤ sl + 900; omega) (V_wk (by simp [lle]) (k _ (sp_lot X (xs (i + 1)) (xs (i + 2)) (xs (i + 3)) 0).2.2 _ ⟨Z2, ta2, f2, A, r2.mfr f3, t2, (i_lot hI hd4).mono (by omega), ⟨I3, F3, rm3, hP3⟩, z2, rfl, ho3⟩))
  · have hd4 : (1 : Int32) = 0 ∨ (1 : Int32) = 1 := Or.inr rfl
    refine V_aload_n (i := 1) C dL_law_132 rfl rfl ?_
    refine V_aload_n (i := 0) C dL_law_133 rfl rfl ?_
    refine V_iload C dL_law_134 rfl ?_
    refine V_iconst (v := 1) C dL_law_136 (by decide) ?_
    refine V_iadd C dL_law_137 ?_
    refine V_scr C hX hbl hbA dL_law_138 (hi1 i) (by omega) hL rfl ?_
    refine V_aload_n (i := 0) C dL_law_139 rfl rfl ?_
    refine V_iload C dL_law_140 rfl ?_
    refine V_iconst (v := 2) C dL_law_142 (by decide) ?_
    refine V_iadd C dL_law_143 ?_
    refine V_scr C hX hbl hbA dL_law_144 (hi2 i) (by omega) hL rfl ?_
    refine V_aload_n (i := 0) C dL_law_145 rfl rfl ?_
    refine V_iload C dL_law_146 rfl ?_
    refine V_iconst (v := 3) C dL_law_148 (by decide) ?_
    refine V_iadd C dL_law_149 ?_
    refine V_scr C hX hbl hbA dL_law_150 (hi3 i) (by omega) hL rfl ?_
    refine V_aload_n (i := 0) C dL_law_151 rfl rfl ?_
    refine V_iload C dL_law_152 rfl ?_
    refine V_iconst (v := 4) C dL_law_154 (by decide) ?_
    refine V_iadd C dL_law_155 ?_
    refine V_scr C hX hbl hbA dL_law_156 (hi4 i) (by omega) hL rfl ?_
    refine V_if_eq (tgt := 164) C dL_law_157 (by decide) (fun z9 => absurd z9 hb4) (fun _ => ?_)
    refine V_iconst (v := 1) C dL_law_160 (by decide) ?_
    refine V_goto (tgt := 165) C dL_law_161 (by decide) ?_
    refine V_aload_n (i := 3) C dL_law_165 rfl rfl ?_
    refine V_ccallS (n := 6) C (w_lot (a := (xs (i + 1))) (b := (xs (i + 2))) (c := (xs (i + 3))) (d := 1) hlt r t hI.1 ho hd4) dL_law_166 gL_law_L_lot rfl (by decide +kernel) rfl rfl (by exact Nat.le_of_ble_eq_true rfl) ⟨by show ce + 4 ≤ 601024; omega, by show sl + 30 ≤ 7293034; omega⟩ ⟨Nat.le_of_ble_eq_true rfl, Nat.le_of_ble_eq_true rfl⟩ hz SZl.moves hsz (fun v9 h9 hr9 => ?_)
    obtain ⟨rfl, ⟨Z2, ta2, r2, t2, z2⟩, ⟨f2, ho2, hf2⟩, fr2⟩ := hr9
    have rm2 := rm.ofr ho fr2
    have m0 := rm2.m0
    refine V_istore5 C dL_law_169 (by decide) ?_
    refine V_aload_n (i := 2) C dL_law_171 rfl rfl ?_
    refine V_aload_n (i := 0) C dL_law_172 rfl rfl ?_
    refine V_iload C dL_law_173 rfl ?_
    refine V_iconst (v := 1) C dL_law_175 (by decide) ?_
    refine V_iadd C dL_law_176 ?_
    refine V_scr C hX hbl hbA dL_law_177 (hi1 i) (by omega) hL rfl ?_
    refine V_aload_n (i := 0) C dL_law_178 rfl rfl ?_
    refine V_iload C dL_law_179 rfl ?_
    refine V_iconst (v := 2) C dL_law_181 (by decide) ?_
    refine V_iadd C dL_law_182 ?_
    refine V_scr C hX hbl hbA dL_law_183 (hi2 i) (by omega) hL rfl ?_
    refine V_aload_n (i := 0) C dL_law_184 rfl rfl ?_
    refine V_iload C dL_law_185 rfl ?_
    refine V_iconst (v := 3) C dL_law_187 (by decide) ?_
    refine V_iadd C dL_law_188 ?_
    refine V_scr C hX hbl hbA dL_law_189 (hi3 i) (by omega) hL rfl ?_
    refine V_aload_n (i := 0) C dL_law_190 rfl rfl ?_
    refine V_iload C dL_law_191 rfl ?_
    refine V_iconst (v := 4) C dL_law_193 (by decide) ?_
    refine V_iadd C dL_law_194 ?_
    refine V_scr C hX hbl hbA dL_law_195 (hi4 i) (by omega) hL rfl ?_
    refine V_if_eq (tgt := 203) C dL_law_196 (by decide) (fun z9 => absurd z9 hb4) (fun _ => ?_)
    refine V_iconst (v := 1) C dL_law_199 (by decide) ?_
    refine V_goto (tgt := 204) C dL_law_200 (by decide) ?_
    refine V_callV (n := 4) C (q_lot (a := (xs (i + 1))) (b := (xs (i + 2))) (c := (xs (i + 3))) (d := 1) rm2 hd hP hd4) dL_law_204 gL_law_X5_lot rfl m0 rfl (by decide +kernel) rfl rfl (by exact Nat.le_of_ble_eq_true rfl) ⟨by show ce + 4 ≤ 601024; omega, by show sl + 30 ≤ 7293034; omega⟩ ⟨Nat.le_of_ble_eq_true rfl, Nat.le_of_ble_eq_true rfl⟩ (fun v9 h9 hr9 => ?_)
    obtain ⟨⟨bv, rfl, hb⟩, ⟨I3, F3, rm3, hP3⟩, f3⟩ := hr9
    have m0 := rm3.m0
    have ho3 := lar_mfr ho2 f3
    refine V_istore6 C dL_law_207 (by decide) ?_
    refine V_aload_n (i := 2) C dL_law_209 rfl rfl ?_
    refine V_callV (n := 0) C (r_thrown rm3) dL_law_210 gL_law_X5_thrown rfl m0 rfl (by decide +kernel) rfl rfl (by exact Nat.le_of_ble_eq_true rfl) ⟨by show ce + 4 ≤ 601024; omega, by show sl + 30 ≤ 7293034; omega⟩ ⟨Nat.le_of_ble_eq_true rfl, Nat.le_of_ble_eq_true rfl⟩ (fun v9 h9 hr9 => ?_)
    obtain ⟨rfl, z9⟩ := hr9
    have z9 := z9.symm
    subst z9
    refine V_iload C dL_law_213 rfl ?_
    refine V_icmp_eq (tgt := 220) C dL_law_215 (by decide) (fun _ => ?_) (fun z9 => absurd rfl z9)
    refine V_iload C dL_law_220 rfl ?_
    refine V_if_ne (tgt := 237) C dL_law_222 (by decide) (fun c222 => ?_) (fun c222 => ?_)
    · refine V_goto (tgt := 1544) C dL_law_237 (by decide) ?_
      exact V_wid (k2 := ce + 80) (n2 := sl + 900) (by show ce + 4 ≤ ce + 80; omega) (by show sl + 30 ≤ sl + 900; omega) (V_wk (by simp [lle]) (k _ (sp_lot X (xs (i + 1)) (xs (i + 2)) (xs (i + 3)) 1).2.2 _ ⟨Z2, ta2, f2, A, r2.mfr f3, t2, (i_lot hI hd4).mono (by omega), ⟨I3, F3, rm3, hP3⟩, z2, rfl, ho3⟩))
    · have hn := cod_0 c222
      have hb := hb hn
      have hf2 := hf2 hn
      refine V_aload_n (i := 3) C dL_law_225 rfl rfl ?_
      refine V_iconst (v := 0) C dL_law_226 (by decide) ?_
      refine V_lald C dL_law_227 ho3 (vp_in_iff.mpr ⟨by decide, by decide⟩) ?_
      refine V_iload C dL_law_228 rfl ?_
      refine V_i2l C dL_law_230 rfl ?_
      refine V_lcmp C dL_law_231 ?_
      refine V_if_eq (tgt := 237) C dL_law_232 (by decide) (fun _ => ?_) (fun z9 => absurd (by rw [hb]; exact (congrArg (fun z => lg_cmp z _) hf2).trans (lg_self _)) z9)
      refine V_goto (tgt := 1544) C dL_law_237 (by decide) ?_
      exact V_wid (k2 := ce + 80) (n2 := sl + 900) (by show ce + 4 ≤ ce + 80; omega) (by show sl + 30 ≤ sl + 900; omega) (V_wk (by simp [lle]) (k _ (sp_lot X (xs (i + 1)) (xs (i + 2)) (xs (i + 3)) 1).2.2 _ ⟨Z2, ta2, f2, A, r2.mfr f3, t2, (i_lot hI hd4).mono (by omega), ⟨I3, F3, rm3, hP3⟩, z2, rfl, ho3⟩))
set_option maxHeartbeats 4000000 in
set_option maxRecDepth 100000 in
theorem lc_comes (C : Cx p9 s9 m9 meth9 c9 cL_law 7 args9 wsL_law RL D cA bs) (hlt : l.stackTraces = false) (hz : hZ bs s9 s9.heap) (hsz : SZl s9) (hX : va_X b L xs s9 s9.heap) (hbl : b < s9.heap.size) (hbA : ¬ bs ≤ b) (hL : L ≤ 2560) (hi : i + 5 ≤ L) (hce : ce + 80 ≤ 601024) (hsl : sl + 900 ≤ 7293034) (hw : LW cA x mm o M X th h) (hM : M + 100 < 2 ^ 30) (k : ∀ h2 X2 th2, LW cA x mm o (M + 100) X2 th2 h2 → V p9 l e9 room_1 s9 m9 args9 below9 meth9 c9 D bs 7 h2 (ce + 80) (sl + 900) Q 1544 [some (.ref b), some (.ref x), some (.ref mm), some (.ref o), some (.int (nI i)), none, none] []) : V p9 l e9 room_1 s9 m9 args9 below9 meth9 c9 D bs 7 h ce sl Q 240 [some (.ref b), some (.ref x), some (.ref mm), some (.ref o), some (.int (nI i)), none, none] [] := by
  obtain ⟨Z, ta, f, A, r, t, hI, ⟨I, F, rm, hP⟩, rfl, rfl, ho⟩ := hw
  have hd := hI.1.1
  have ht := t.HT
  refine V_aload_n (i := 1) C dL_law_240 rfl rfl ?_
  refine V_aload_n (i := 0) C dL_law_241 rfl rfl ?_
  refine V_iload C dL_law_242 rfl ?_
  refine V_iconst (v := 1) C dL_law_244 (by decide) ?_
  refine V_iadd C dL_law_245 ?_
  refine V_scr C hX hbl hbA dL_law_246 (hi1 i) (by omega) hL rfl ?_
  refine V_aload_n (i := 3) C dL_law_247 rfl rfl ?_
  refine V_ccallS (n := 3) C (w_comes (x := (xs (i + 1))) hlt r t hI.1 ho) dL_law_248 gL_law_L_comes rfl (by decide +kernel) rfl rfl (by exact Nat.le_of_ble_eq_true rfl) ⟨by show ce + 4 ≤ 601024; omega, by show sl + 30 ≤ 7293034; omega⟩ ⟨Nat.le_of_ble_eq_true rfl, Nat.le_of_ble_eq_true rfl⟩ hz SZl.moves hsz (fun v9 h9 hr9 => ?_)
  obtain ⟨rfl, ⟨Z2, ta2, r2, t2, z2⟩, ⟨f2, ho2, hf2⟩, fr2⟩ := hr9
  have rm2 := rm.ofr ho fr2
  have m0 := rm2.m0
  refine V_istore5 C dL_law_251 (by decide) ?_
  refine V_aload_n (i := 2) C dL_law_253 rfl rfl ?_
  refine V_aload_n (i := 0) C dL_law_254 rfl rfl ?_
  refine V_iload C dL_law_255 rfl ?_
  refine V_iconst (v := 1) C dL_law_257 (by decide) ?_
  refine V_iadd C dL_law_258 ?_
  refine V_scr C hX hbl hbA dL_law_259 (hi1 i) (by omega) hL rfl ?_
  refine V_callV (n := 1) C (q_comes (x := (xs (i + 1))) rm2 hI hP) dL_law_260 gL_law_X5_comes rfl m0 rfl (by decide +kernel) rfl rfl (by exact Nat.le_of_ble_eq_true rfl) ⟨by show ce + 4 ≤ 601024; omega, by show sl + 30 ≤ 7293034; omega⟩ ⟨Nat.le_of_ble_eq_true rfl, Nat.le_of_ble_eq_true rfl⟩ (fun v9 h9 hr9 => ?_)
  obtain ⟨⟨bv, rfl, hb⟩, ⟨I3, F3, rm3, hP3⟩, f3⟩ := hr9
  have m0 := rm3.m0
  have ho3 := lar_mfr ho2 f3
  refine V_istore6 C dL_law_263 (by decide) ?_
  refine V_aload_n (i := 2) C dL_law_265 rfl rfl ?_
  refine V_callV (n := 0) C (r_thrown rm3) dL_law_266 gL_law_X5_thrown rfl m0 rfl (by decide +kernel) rfl rfl (by exact Nat.le_of_ble_eq_true rfl) ⟨by show ce + 4 ≤ 601024; omega, by show sl + 30 ≤ 7293034; omega⟩ ⟨Nat.le_of_ble_eq_true rfl, Nat.le_of_ble_eq_true rfl⟩ (fun v9 h9 hr9 => ?_)
  obtain ⟨rfl, z9⟩ := hr9
  have z9 := z9.symm
  subst z9
  refine V_iload C dL_law_269 rfl ?_
  refine V_icmp_eq (tgt := 276) C dL_law_271 (by decide) (fun _ => ?_) (fun z9 => absurd rfl z9)
  refine V_iload C dL_law_276 rfl ?_
  refine V_if_ne (tgt := 293) C dL_law_278 (by decide) (fun c278 => ?_) (fun c278 => ?_)
  · refine V_goto (tgt := 1544) C dL_law_293 (by decide) ?_
    exact V_wid (k2 := ce + 80) (n2 := sl + 900) (by show ce + 4 ≤ ce + 80; omega) (by show sl + 30 ≤ sl + 900; omega) (V_wk (by simp [lle]) (k _ (sp_comes X (xs (i + 1))).2.2 _ ⟨Z2, ta2, f2, A, r2.mfr f3, t2, (i_comes hI).mono (by omega), ⟨I3, F3, rm3, hP3⟩, z2, rfl, ho3⟩))
  · have hn := cod_0 c278
    have hb := hb hn
    have hf2 := hf2 hn
    refine V_aload_n (i := 3) C dL_law_281 rfl rfl ?_
    refine V_iconst (v := 0) C dL_law_282 (by decide) ?_
    refine V_lald C dL_law_283 ho3 (vp_in_iff.mpr ⟨by decide, by decide⟩) ?_
    refine V_iload C dL_law_284 rfl ?_
    refine V_i2l C dL_law_286 rfl ?_
    refine V_lcmp C dL_law_287 ?_
    refine V_if_eq (tgt := 293) C dL_law_288 (by decide) (fun _ => ?_) (fun z9 => absurd (by rw [hb]; exact (congrArg (fun z => lg_cmp z _) hf2).trans (lg_self _)) z9)
    refine V_goto (tgt := 1544) C dL_law_293 (by decide) ?_
    exact V_wid (k2 := ce + 80) (n2 := sl + 900) (by show ce + 4 ≤ ce + 80; omega) (by show sl + 30 ≤ sl + 900; omega) (V_wk (by simp [lle]) (k _ (sp_comes X (xs (i + 1))).2.2 _ ⟨Z2, ta2, f2, A, r2.mfr f3, t2, (i_comes hI).mono (by omega), ⟨I3, F3, rm3, hP3⟩, z2, rfl, ho3⟩))
set_option maxHeartbeats 4000000 in
set_option maxRecDepth 100000 in
theorem lc_picture (C : Cx p9 s9 m9 meth9 c9 cL_law 7 args9 wsL_law RL D cA bs) (hlt : l.stackTraces = false) (hz : hZ bs s9 s9.heap) (hsz : SZl s9) (hX : va_X b L xs s9 s9.heap) (hbl : b < s9.heap.size) (hbA : ¬ bs ≤ b) (hL : L ≤ 2560) (hi : i + 5 ≤ L) (hce : ce + 80 ≤ 601024) (hsl : sl + 900 ≤ 7293034) (hw : LW cA x mm o M X th h) (hM : M + 100 < 2 ^ 30) (k : ∀ h2 X2 th2, LW cA x mm o (M + 100) X2 th2 h2 → V p9 l e9 room_1 s9 m9 args9 below9 meth9 c9 D bs 7 h2 (ce + 80) (sl + 900) Q 1544 [some (.ref b), some (.ref x), some (.ref mm), some (.ref o), some (.int (nI i)), none, none] []) : V p9 l e9 room_1 s9 m9 args9 below9 meth9 c9 D bs 7 h ce sl Q 296 [some (.ref b), some (.ref x), some (.ref mm), some (.ref o), some (.int (nI i)), none, none] [] := by
  obtain ⟨Z, ta, f, A, r, t, hI, ⟨I, F, rm, hP⟩, rfl, rfl, ho⟩ := hw
  have hd := hI.1.1
  have ht := t.HT
  refine V_aload_n (i := 1) C dL_law_296 rfl rfl ?_
  refine V_aload_n (i := 0) C dL_law_297 rfl rfl ?_
  refine V_iload C dL_law_298 rfl ?_
  refine V_iconst (v := 1) C dL_law_300 (by decide) ?_
  refine V_iadd C dL_law_301 ?_
  refine V_scr C hX hbl hbA dL_law_302 (hi1 i) (by omega) hL rfl ?_
  refine V_aload_n (i := 0) C dL_law_303 rfl rfl ?_
  refine V_iload C dL_law_304 rfl ?_
  refine V_iconst (v := 2) C dL_law_306 (by decide) ?_
  refine V_iadd C dL_law_307 ?_
  refine V_scr C hX hbl hbA dL_law_308 (hi2 i) (by omega) hL rfl ?_
  refine V_aload_n (i := 0) C dL_law_309 rfl rfl ?_
  refine V_iload C dL_law_310 rfl ?_
  refine V_iconst (v := 3) C dL_law_312 (by decide) ?_
  refine V_iadd C dL_law_313 ?_
  refine V_scr C hX hbl hbA dL_law_314 (hi3 i) (by omega) hL rfl ?_
  refine V_aload_n (i := 3) C dL_law_315 rfl rfl ?_
  refine V_ccallS (n := 5) C (w_picture (a := (xs (i + 1))) (b := (xs (i + 2))) (c := (xs (i + 3))) hlt r t hI.1 ho) dL_law_316 gL_law_L_picture rfl (by decide +kernel) rfl rfl (by exact Nat.le_of_ble_eq_true rfl) ⟨by show ce + 75 ≤ 601024; omega, by show sl + 800 ≤ 7293034; omega⟩ ⟨Nat.le_of_ble_eq_true rfl, Nat.le_of_ble_eq_true rfl⟩ hz SZl.moves hsz (fun v9 h9 hr9 => ?_)
  obtain ⟨rfl, ⟨Z2, ta2, r2, t2, z2⟩, ⟨f2, ho2, hf2⟩, fr2⟩ := hr9
  have rm2 := rm.ofr ho fr2
  have m0 := rm2.m0
  refine V_istore5 C dL_law_319 (by decide) ?_
  refine V_aload_n (i := 2) C dL_law_321 rfl rfl ?_
  refine V_aload_n (i := 0) C dL_law_322 rfl rfl ?_
  refine V_iload C dL_law_323 rfl ?_
  refine V_iconst (v := 1) C dL_law_325 (by decide) ?_
  refine V_iadd C dL_law_326 ?_
  refine V_scr C hX hbl hbA dL_law_327 (hi1 i) (by omega) hL rfl ?_
  refine V_aload_n (i := 0) C dL_law_328 rfl rfl ?_
  refine V_iload C dL_law_329 rfl ?_
  refine V_iconst (v := 2) C dL_law_331 (by decide) ?_
  refine V_iadd C dL_law_332 ?_
  refine V_scr C hX hbl hbA dL_law_333 (hi2 i) (by omega) hL rfl ?_
  refine V_aload_n (i := 0) C dL_law_334 rfl rfl ?_
  refine V_iload C dL_law_335 rfl ?_
  refine V_iconst (v := 3) C dL_law_337 (by decide) ?_
  refine V_iadd C dL_law_338 ?_
  refine V_scr C hX hbl hbA dL_law_339 (hi3 i) (by omega) hL rfl ?_
  refine V_callV (n := 3) C (q_picture (a := (xs (i + 1))) (b := (xs (i + 2))) (c := (xs (i + 3))) rm2 hd hP) dL_law_340 gL_law_X5_picture rfl m0 rfl (by decide +kernel) rfl rfl (by exact Nat.le_of_ble_eq_true rfl) ⟨by show ce + 75 ≤ 601024; omega, by show sl + 800 ≤ 7293034; omega⟩ ⟨Nat.le_of_ble_eq_true rfl, Nat.le_of_ble_eq_true rfl⟩ (fun v9 h9 hr9 => ?_)
  obtain ⟨⟨bv, rfl, hb⟩, ⟨I3, F3, rm3, hP3⟩, f3⟩ := hr9
  have m0 := rm3.m0
  have ho3 := lar_mfr ho2 f3
  refine V_istore6 C dL_law_343 (by decide) ?_
  refine V_aload_n (i := 2) C dL_law_345 rfl rfl ?_
  refine V_callV (n := 0) C (r_thrown rm3) dL_law_346 gL_law_X5_thrown rfl m0 rfl (by decide +kernel) rfl rfl (by exact Nat.le_of_ble_eq_true rfl) ⟨by show ce + 75 ≤ 601024; omega, by show sl + 800 ≤ 7293034; omega⟩ ⟨Nat.le_of_ble_eq_true rfl, Nat.le_of_ble_eq_true rfl⟩ (fun v9 h9 hr9 => ?_)
  obtain ⟨rfl, z9⟩ := hr9
  have z9 := z9.symm
  subst z9
  refine V_iload C dL_law_349 rfl ?_
  refine V_icmp_eq (tgt := 356) C dL_law_351 (by decide) (fun _ => ?_) (fun z9 => absurd rfl z9)
  refine V_iload C dL_law_356 rfl ?_
  refine V_if_ne (tgt := 373) C dL_law_358 (by decide) (fun c358 => ?_) (fun c358 => ?_)
  · refine V_goto (tgt := 1544) C dL_law_373 (by decide) ?_
    exact V_wid (k2 := ce + 80) (n2 := sl + 900) (by show ce + 75 ≤ ce + 80; omega) (by show sl + 800 ≤ sl + 900; omega) (V_wk (by simp [lle]) (k _ (sp_picture X (xs (i + 1)) (xs (i + 2)) (xs (i + 3))).2.2 _ ⟨Z2, ta2, f2, A, r2.mfr f3, t2, (i_picture hI).mono (by omega), ⟨I3, F3, rm3, hP3⟩, z2, rfl, ho3⟩))
  · have hn := cod_0 c358
    have hb := hb hn
    have hf2 := hf2 hn
    refine V_aload_n (i := 3) C dL_law_361 rfl rfl ?_
    refine V_iconst (v := 0) C dL_law_362 (by decide) ?_
    refine V_lald C dL_law_363 ho3 (vp_in_iff.mpr ⟨by decide, by decide⟩) ?_
    refine V_iload C dL_law_364 rfl ?_
    refine V_i2l C dL_law_366 rfl ?_
    refine V_lcmp C dL_law_367 ?_
    refine V_if_eq (tgt := 373) C dL_law_368 (by decide) (fun _ => ?_) (fun z9 => absurd (by rw [hb]; exact (congrArg (fun z => lg_cmp z _) hf2).trans (lg_self _)) z9)
    refine V_goto (tgt := 1544) C dL_law_373 (by decide) ?_
    exact V_wid (k2 := ce + 80) (n2 := sl + 900) (by show ce + 75 ≤ ce + 80; omega) (by show sl + 800 ≤ sl + 900; omega) (V_wk (by simp [lle]) (k _ (sp_picture X (xs (i + 1)) (xs (i + 2)) (xs (i + 3))).2.2 _ ⟨Z2, ta2, f2, A, r2.mfr f3, t2, (i_picture hI).mono (by omega), ⟨I3, F3, rm3, hP3⟩, z2, rfl, ho3⟩))
set_option maxHeartbeats 4000000 in
set_option maxRecDepth 100000 in
theorem lc_cell (C : Cx p9 s9 m9 meth9 c9 cL_law 7 args9 wsL_law RL D cA bs) (hlt : l.stackTraces = false) (hz : hZ bs s9 s9.heap) (hsz : SZl s9) (hX : va_X b L xs s9 s9.heap) (hbl : b < s9.heap.size) (hbA : ¬ bs ≤ b) (hL : L ≤ 2560) (hi : i + 5 ≤ L) (hce : ce + 80 ≤ 601024) (hsl : sl + 900 ≤ 7293034) (hw : LW cA x mm o M X th h) (hM : M + 100 < 2 ^ 30) (k : ∀ h2 X2 th2, LW cA x mm o (M + 100) X2 th2 h2 → V p9 l e9 room_1 s9 m9 args9 below9 meth9 c9 D bs 7 h2 (ce + 80) (sl + 900) Q 1544 [some (.ref b), some (.ref x), some (.ref mm), some (.ref o), some (.int (nI i)), none, none] []) : V p9 l e9 room_1 s9 m9 args9 below9 meth9 c9 D bs 7 h ce sl Q 376 [some (.ref b), some (.ref x), some (.ref mm), some (.ref o), some (.int (nI i)), none, none] [] := by
  obtain ⟨Z, ta, f, A, r, t, hI, ⟨I, F, rm, hP⟩, rfl, rfl, ho⟩ := hw
  have hd := hI.1.1
  have ht := t.HT
  refine V_aload_n (i := 1) C dL_law_376 rfl rfl ?_
  refine V_aload_n (i := 0) C dL_law_377 rfl rfl ?_
  refine V_iload C dL_law_378 rfl ?_
  refine V_iconst (v := 1) C dL_law_380 (by decide) ?_
  refine V_iadd C dL_law_381 ?_
  refine V_scr C hX hbl hbA dL_law_382 (hi1 i) (by omega) hL rfl ?_
  refine V_aload_n (i := 0) C dL_law_383 rfl rfl ?_
  refine V_iload C dL_law_384 rfl ?_
  refine V_iconst (v := 2) C dL_law_386 (by decide) ?_
  refine V_iadd C dL_law_387 ?_
  refine V_scr C hX hbl hbA dL_law_388 (hi2 i) (by omega) hL rfl ?_
  refine V_aload_n (i := 0) C dL_law_389 rfl rfl ?_
  refine V_iload C dL_law_390 rfl ?_
  refine V_iconst (v := 3) C dL_law_392 (by decide) ?_
  refine V_iadd C dL_law_393 ?_
  refine V_scr C hX hbl hbA dL_law_394 (hi3 i) (by omega) hL rfl ?_
  refine V_aload_n (i := 0) C dL_law_395 rfl rfl ?_
  refine V_iload C dL_law_396 rfl ?_
  refine V_iconst (v := 4) C dL_law_398 (by decide) ?_
  refine V_iadd C dL_law_399 ?_
  refine V_scr C hX hbl hbA dL_law_400 (hi4 i) (by omega) hL rfl ?_
  refine V_aload_n (i := 3) C dL_law_401 rfl rfl ?_
  refine V_ccallS (n := 6) C (w_cell (a := (xs (i + 1))) (b := (xs (i + 2))) (c := (xs (i + 3))) (d := (xs (i + 4))) hlt r t hI.1 ho) dL_law_402 gL_law_L_cell rfl (by decide +kernel) rfl rfl (by exact Nat.le_of_ble_eq_true rfl) ⟨by show ce + 4 ≤ 601024; omega, by show sl + 30 ≤ 7293034; omega⟩ ⟨Nat.le_of_ble_eq_true rfl, Nat.le_of_ble_eq_true rfl⟩ hz SZl.moves hsz (fun v9 h9 hr9 => ?_)
  obtain ⟨rfl, ⟨Z2, ta2, r2, t2, z2⟩, ⟨f2, ho2, hf2⟩, fr2⟩ := hr9
  have rm2 := rm.ofr ho fr2
  have m0 := rm2.m0
  refine V_istore5 C dL_law_405 (by decide) ?_
  refine V_aload_n (i := 2) C dL_law_407 rfl rfl ?_
  refine V_aload_n (i := 0) C dL_law_408 rfl rfl ?_
  refine V_iload C dL_law_409 rfl ?_
  refine V_iconst (v := 1) C dL_law_411 (by decide) ?_
  refine V_iadd C dL_law_412 ?_
  refine V_scr C hX hbl hbA dL_law_413 (hi1 i) (by omega) hL rfl ?_
  refine V_aload_n (i := 0) C dL_law_414 rfl rfl ?_
  refine V_iload C dL_law_415 rfl ?_
  refine V_iconst (v := 2) C dL_law_417 (by decide) ?_
  refine V_iadd C dL_law_418 ?_
  refine V_scr C hX hbl hbA dL_law_419 (hi2 i) (by omega) hL rfl ?_
  refine V_aload_n (i := 0) C dL_law_420 rfl rfl ?_
  refine V_iload C dL_law_421 rfl ?_
  refine V_iconst (v := 3) C dL_law_423 (by decide) ?_
  refine V_iadd C dL_law_424 ?_
  refine V_scr C hX hbl hbA dL_law_425 (hi3 i) (by omega) hL rfl ?_
  refine V_aload_n (i := 0) C dL_law_426 rfl rfl ?_
  refine V_iload C dL_law_427 rfl ?_
  refine V_iconst (v := 4) C dL_law_429 (by decide) ?_
  refine V_iadd C dL_law_430 ?_
  refine V_scr C hX hbl hbA dL_law_431 (hi4 i) (by omega) hL rfl ?_
  refine V_callV (n := 4) C (q_cell (a := (xs (i + 1))) (b := (xs (i + 2))) (c := (xs (i + 3))) (d := (xs (i + 4))) rm2 hI hP) dL_law_432 gL_law_X5_cell rfl m0 rfl (by decide +kernel) rfl rfl (by exact Nat.le_of_ble_eq_true rfl) ⟨by show ce + 4 ≤ 601024; omega, by show sl + 30 ≤ 7293034; omega⟩ ⟨Nat.le_of_ble_eq_true rfl, Nat.le_of_ble_eq_true rfl⟩ (fun v9 h9 hr9 => ?_)
  obtain ⟨⟨bv, rfl, hb⟩, ⟨I3, F3, rm3, hP3⟩, f3⟩ := hr9
  have m0 := rm3.m0
  have ho3 := lar_mfr ho2 f3
  refine V_istore6 C dL_law_435 (by decide) ?_
  refine V_aload_n (i := 2) C dL_law_437 rfl rfl ?_
  refine V_callV (n := 0) C (r_thrown rm3) dL_law_438 gL_law_X5_thrown rfl m0 rfl (by decide +kernel) rfl rfl (by exact Nat.le_of_ble_eq_true rfl) ⟨by show ce + 4 ≤ 601024; omega, by show sl + 30 ≤ 7293034; omega⟩ ⟨Nat.le_of_ble_eq_true rfl, Nat.le_of_ble_eq_true rfl⟩ (fun v9 h9 hr9 => ?_)
  obtain ⟨rfl, z9⟩ := hr9
  have z9 := z9.symm
  subst z9
  refine V_iload C dL_law_441 rfl ?_
  refine V_icmp_eq (tgt := 448) C dL_law_443 (by decide) (fun _ => ?_) (fun z9 => absurd rfl z9)
  refine V_iload C dL_law_448 rfl ?_
  refine V_if_ne (tgt := 465) C dL_law_450 (by decide) (fun c450 => ?_) (fun c450 => ?_)
  · refine V_goto (tgt := 1544) C dL_law_465 (by decide) ?_
    exact V_wid (k2 := ce + 80) (n2 := sl + 900) (by show ce + 4 ≤ ce + 80; omega) (by show sl + 30 ≤ sl + 900; omega) (V_wk (by simp [lle]) (k _ (sp_cell X (xs (i + 1)) (xs (i + 2)) (xs (i + 3)) (xs (i + 4))).2.2 _ ⟨Z2, ta2, f2, A, r2.mfr f3, t2, (i_cell hI).mono (by omega), ⟨I3, F3, rm3, hP3⟩, z2, rfl, ho3⟩))
  · have hn := cod_0 c450
    have hb := hb hn
    have hf2 := hf2 hn
    refine V_aload_n (i := 3) C dL_law_453 rfl rfl ?_
    refine V_iconst (v := 0) C dL_law_454 (by decide) ?_
    refine V_lald C dL_law_455 ho3 (vp_in_iff.mpr ⟨by decide, by decide⟩) ?_
    refine V_iload C dL_law_456 rfl ?_
    refine V_i2l C dL_law_458 rfl ?_
    refine V_lcmp C dL_law_459 ?_
    refine V_if_eq (tgt := 465) C dL_law_460 (by decide) (fun _ => ?_) (fun z9 => absurd (by rw [hb]; exact (congrArg (fun z => lg_cmp z _) hf2).trans (lg_self _)) z9)
    refine V_goto (tgt := 1544) C dL_law_465 (by decide) ?_
    exact V_wid (k2 := ce + 80) (n2 := sl + 900) (by show ce + 4 ≤ ce + 80; omega) (by show sl + 30 ≤ sl + 900; omega) (V_wk (by simp [lle]) (k _ (sp_cell X (xs (i + 1)) (xs (i + 2)) (xs (i + 3)) (xs (i + 4))).2.2 _ ⟨Z2, ta2, f2, A, r2.mfr f3, t2, (i_cell hI).mono (by omega), ⟨I3, F3, rm3, hP3⟩, z2, rfl, ho3⟩))
set_option maxHeartbeats 4000000 in
set_option maxRecDepth 100000 in
theorem lc_old (C : Cx p9 s9 m9 meth9 c9 cL_law 7 args9 wsL_law RL D cA bs) (hlt : l.stackTraces = false) (hz : hZ bs s9 s9.heap) (hsz : SZl s9) (hX : va_X b L xs s9 s9.heap) (hbl : b < s9.heap.size) (hbA : ¬ bs ≤ b) (hL : L ≤ 2560) (hi : i + 5 ≤ L) (hce : ce + 80 ≤ 601024) (hsl : sl + 900 ≤ 7293034) (hw : LW cA x mm o M X th h) (hM : M + 100 < 2 ^ 30) (k : ∀ h2 X2 th2, LW cA x mm o (M + 100) X2 th2 h2 → V p9 l e9 room_1 s9 m9 args9 below9 meth9 c9 D bs 7 h2 (ce + 80) (sl + 900) Q 1544 [some (.ref b), some (.ref x), some (.ref mm), some (.ref o), some (.int (nI i)), none, none] []) : V p9 l e9 room_1 s9 m9 args9 below9 meth9 c9 D bs 7 h ce sl Q 468 [some (.ref b), some (.ref x), some (.ref mm), some (.ref o), some (.int (nI i)), none, none] [] := by
  obtain ⟨Z, ta, f, A, r, t, hI, ⟨I, F, rm, hP⟩, rfl, rfl, ho⟩ := hw
  have hd := hI.1.1
  have ht := t.HT
  refine V_aload_n (i := 1) C dL_law_468 rfl rfl ?_
  refine V_aload_n (i := 0) C dL_law_469 rfl rfl ?_
  refine V_iload C dL_law_470 rfl ?_
  refine V_iconst (v := 1) C dL_law_472 (by decide) ?_
  refine V_iadd C dL_law_473 ?_
  refine V_scr C hX hbl hbA dL_law_474 (hi1 i) (by omega) hL rfl ?_
  refine V_aload_n (i := 0) C dL_law_475 rfl rfl ?_
  refine V_iload C dL_law_476 rfl ?_
  refine V_iconst (v := 2) C dL_law_478 (by decide) ?_
  refine V_iadd C dL_law_479 ?_
  refine V_scr C hX hbl hbA dL_law_480 (hi2 i) (by omega) hL rfl ?_
  refine V_aload_n (i := 0) C dL_law_481 rfl rfl ?_
  refine V_iload C dL_law_482 rfl ?_
  refine V_iconst (v := 3) C dL_law_484 (by decide) ?_
  refine V_iadd C dL_law_485 ?_
  refine V_scr C hX hbl hbA dL_law_486 (hi3 i) (by omega) hL rfl ?_
  refine V_aload_n (i := 0) C dL_law_487 rfl rfl ?_
  refine V_iload C dL_law_488 rfl ?_
  refine V_iconst (v := 4) C dL_law_490 (by decide) ?_
  refine V_iadd C dL_law_491 ?_
  refine V_scr C hX hbl hbA dL_law_492 (hi4 i) (by omega) hL rfl ?_
  refine V_aload_n (i := 3) C dL_law_493 rfl rfl ?_
  refine V_ccallS (n := 6) C (w_old (a := (xs (i + 1))) (b := (xs (i + 2))) (c := (xs (i + 3))) (d := (xs (i + 4))) hlt r t hI.1 ho) dL_law_494 gL_law_L_old rfl (by decide +kernel) rfl rfl (by exact Nat.le_of_ble_eq_true rfl) ⟨by show ce + 4 ≤ 601024; omega, by show sl + 30 ≤ 7293034; omega⟩ ⟨Nat.le_of_ble_eq_true rfl, Nat.le_of_ble_eq_true rfl⟩ hz SZl.moves hsz (fun v9 h9 hr9 => ?_)
  obtain ⟨rfl, ⟨Z2, ta2, r2, t2, z2⟩, ⟨f2, ho2, hf2⟩, fr2⟩ := hr9
  have rm2 := rm.ofr ho fr2
  have m0 := rm2.m0
  refine V_istore5 C dL_law_497 (by decide) ?_
  refine V_aload_n (i := 2) C dL_law_499 rfl rfl ?_
  refine V_aload_n (i := 0) C dL_law_500 rfl rfl ?_
  refine V_iload C dL_law_501 rfl ?_
  refine V_iconst (v := 1) C dL_law_503 (by decide) ?_
  refine V_iadd C dL_law_504 ?_
  refine V_scr C hX hbl hbA dL_law_505 (hi1 i) (by omega) hL rfl ?_
  refine V_aload_n (i := 0) C dL_law_506 rfl rfl ?_
  refine V_iload C dL_law_507 rfl ?_
  refine V_iconst (v := 2) C dL_law_509 (by decide) ?_
  refine V_iadd C dL_law_510 ?_
  refine V_scr C hX hbl hbA dL_law_511 (hi2 i) (by omega) hL rfl ?_
  refine V_aload_n (i := 0) C dL_law_512 rfl rfl ?_
  refine V_iload C dL_law_513 rfl ?_
  refine V_iconst (v := 3) C dL_law_515 (by decide) ?_
  refine V_iadd C dL_law_516 ?_
  refine V_scr C hX hbl hbA dL_law_517 (hi3 i) (by omega) hL rfl ?_
  refine V_aload_n (i := 0) C dL_law_518 rfl rfl ?_
  refine V_iload C dL_law_519 rfl ?_
  refine V_iconst (v := 4) C dL_law_521 (by decide) ?_
  refine V_iadd C dL_law_522 ?_
  refine V_scr C hX hbl hbA dL_law_523 (hi4 i) (by omega) hL rfl ?_
  refine V_callV (n := 4) C (q_old (a := (xs (i + 1))) (b := (xs (i + 2))) (c := (xs (i + 3))) (d := (xs (i + 4))) rm2 hI hP) dL_law_524 gL_law_X5_old rfl m0 rfl (by decide +kernel) rfl rfl (by exact Nat.le_of_ble_eq_true rfl) ⟨by show ce + 4 ≤ 601024; omega, by show sl + 30 ≤ 7293034; omega⟩ ⟨Nat.le_of_ble_eq_true rfl, Nat.le_of_ble_eq_true rfl⟩ (fun v9 h9 hr9 => ?_)
  obtain ⟨⟨bv, rfl, hb⟩, ⟨I3, F3, rm3, hP3⟩, f3⟩ := hr9
  have m0 := rm3.m0
  have ho3 := lar_mfr ho2 f3
  refine V_istore6 C dL_law_527 (by decide) ?_
  refine V_aload_n (i := 2) C dL_law_529 rfl rfl ?_
  refine V_callV (n := 0) C (r_thrown rm3) dL_law_530 gL_law_X5_thrown rfl m0 rfl (by decide +kernel) rfl rfl (by exact Nat.le_of_ble_eq_true rfl) ⟨by show ce + 4 ≤ 601024; omega, by show sl + 30 ≤ 7293034; omega⟩ ⟨Nat.le_of_ble_eq_true rfl, Nat.le_of_ble_eq_true rfl⟩ (fun v9 h9 hr9 => ?_)
  obtain ⟨rfl, z9⟩ := hr9
  have z9 := z9.symm
  subst z9
  refine V_iload C dL_law_533 rfl ?_
  refine V_icmp_eq (tgt := 540) C dL_law_535 (by decide) (fun _ => ?_) (fun z9 => absurd rfl z9)
  refine V_iload C dL_law_540 rfl ?_
  refine V_if_ne (tgt := 557) C dL_law_542 (by decide) (fun c542 => ?_) (fun c542 => ?_)
  · refine V_goto (tgt := 1544) C dL_law_557 (by decide) ?_
    exact V_wid (k2 := ce + 80) (n2 := sl + 900) (by show ce + 4 ≤ ce + 80; omega) (by show sl + 30 ≤ sl + 900; omega) (V_wk (by simp [lle]) (k _ (sp_old X (xs (i + 1)) (xs (i + 2)) (xs (i + 3)) (xs (i + 4))).2.2 _ ⟨Z2, ta2, f2, A, r2.mfr f3, t2, (i_old hI).mono (by omega), ⟨I3, F3, rm3, hP3⟩, z2, rfl, ho3⟩))
  · have hn := cod_0 c542
    have hb := hb hn
    have hf2 := hf2 hn
    refine V_aload_n (i := 3) C dL_law_545 rfl rfl ?_
    refine V_iconst (v := 0) C dL_law_546 (by decide) ?_
    refine V_lald C dL_law_547 ho3 (vp_in_iff.mpr ⟨by decide, by decide⟩) ?_
    refine V_iload C dL_law_548 rfl ?_
    refine V_i2l C dL_law_550 rfl ?_
    refine V_lcmp C dL_law_551 ?_
    refine V_if_eq (tgt := 557) C dL_law_552 (by decide) (fun _ => ?_) (fun z9 => absurd (by rw [hb]; exact (congrArg (fun z => lg_cmp z _) hf2).trans (lg_self _)) z9)
    refine V_goto (tgt := 1544) C dL_law_557 (by decide) ?_
    exact V_wid (k2 := ce + 80) (n2 := sl + 900) (by show ce + 4 ≤ ce + 80; omega) (by show sl + 30 ≤ sl + 900; omega) (V_wk (by simp [lle]) (k _ (sp_old X (xs (i + 1)) (xs (i + 2)) (xs (i + 3)) (xs (i + 4))).2.2 _ ⟨Z2, ta2, f2, A, r2.mfr f3, t2, (i_old hI).mono (by omega), ⟨I3, F3, rm3, hP3⟩, z2, rfl, ho3⟩))
set_option maxHeartbeats 4000000 in
set_option maxRecDepth 100000 in
theorem lc_fill (C : Cx p9 s9 m9 meth9 c9 cL_law 7 args9 wsL_law RL D cA bs) (hlt : l.stackTraces = false) (hz : hZ bs s9 s9.heap) (hsz : SZl s9) (hX : va_X b L xs s9 s9.heap) (hbl : b < s9.heap.size) (hbA : ¬ bs ≤ b) (hL : L ≤ 2560) (hi : i + 5 ≤ L) (hce : ce + 80 ≤ 601024) (hsl : sl + 900 ≤ 7293034) (hw : LW cA x mm o M X th h) (hM : M + 100 < 2 ^ 30) (k : ∀ h2 X2 th2, LW cA x mm o (M + 100) X2 th2 h2 → V p9 l e9 room_1 s9 m9 args9 below9 meth9 c9 D bs 7 h2 (ce + 80) (sl + 900) Q 1544 [some (.ref b), some (.ref x), some (.ref mm), some (.ref o), some (.int (nI i)), none, none] []) : V p9 l e9 room_1 s9 m9 args9 below9 meth9 c9 D bs 7 h ce sl Q 560 [some (.ref b), some (.ref x), some (.ref mm), some (.ref o), some (.int (nI i)), none, none] [] := by
  obtain ⟨Z, ta, f, A, r, t, hI, ⟨I, F, rm, hP⟩, rfl, rfl, ho⟩ := hw
  have hd := hI.1.1
  have ht := t.HT
  refine V_aload_n (i := 1) C dL_law_560 rfl rfl ?_
  refine V_aload_n (i := 0) C dL_law_561 rfl rfl ?_
  refine V_iload C dL_law_562 rfl ?_
  refine V_iconst (v := 1) C dL_law_564 (by decide) ?_
  refine V_iadd C dL_law_565 ?_
  refine V_scr C hX hbl hbA dL_law_566 (hi1 i) (by omega) hL rfl ?_
  refine V_aload_n (i := 3) C dL_law_567 rfl rfl ?_
  refine V_ccallS (n := 3) C (w_fill (x := (xs (i + 1))) hlt r t hI.1 ho) dL_law_568 gL_law_L_fill rfl (by decide +kernel) rfl rfl (by exact Nat.le_of_ble_eq_true rfl) ⟨by show ce + 4 ≤ 601024; omega, by show sl + 30 ≤ 7293034; omega⟩ ⟨Nat.le_of_ble_eq_true rfl, Nat.le_of_ble_eq_true rfl⟩ hz SZl.moves hsz (fun v9 h9 hr9 => ?_)
  obtain ⟨rfl, ⟨Z2, ta2, r2, t2, z2⟩, ⟨f2, ho2, hf2⟩, fr2⟩ := hr9
  have rm2 := rm.ofr ho fr2
  have m0 := rm2.m0
  refine V_istore5 C dL_law_571 (by decide) ?_
  refine V_aload_n (i := 2) C dL_law_573 rfl rfl ?_
  refine V_aload_n (i := 0) C dL_law_574 rfl rfl ?_
  refine V_iload C dL_law_575 rfl ?_
  refine V_iconst (v := 1) C dL_law_577 (by decide) ?_
  refine V_iadd C dL_law_578 ?_
  refine V_scr C hX hbl hbA dL_law_579 (hi1 i) (by omega) hL rfl ?_
  refine V_callV (n := 1) C (q_fill (x := (xs (i + 1))) rm2 hI hP) dL_law_580 gL_law_X5_fill rfl m0 rfl (by decide +kernel) rfl rfl (by exact Nat.le_of_ble_eq_true rfl) ⟨by show ce + 4 ≤ 601024; omega, by show sl + 30 ≤ 7293034; omega⟩ ⟨Nat.le_of_ble_eq_true rfl, Nat.le_of_ble_eq_true rfl⟩ (fun v9 h9 hr9 => ?_)
  obtain ⟨⟨bv, rfl, hb⟩, ⟨I3, F3, rm3, hP3⟩, f3⟩ := hr9
  have m0 := rm3.m0
  have ho3 := lar_mfr ho2 f3
  refine V_istore6 C dL_law_583 (by decide) ?_
  refine V_aload_n (i := 2) C dL_law_585 rfl rfl ?_
  refine V_callV (n := 0) C (r_thrown rm3) dL_law_586 gL_law_X5_thrown rfl m0 rfl (by decide +kernel) rfl rfl (by exact Nat.le_of_ble_eq_true rfl) ⟨by show ce + 4 ≤ 601024; omega, by show sl + 30 ≤ 7293034; omega⟩ ⟨Nat.le_of_ble_eq_true rfl, Nat.le_of_ble_eq_true rfl⟩ (fun v9 h9 hr9 => ?_)
  obtain ⟨rfl, z9⟩ := hr9
  have z9 := z9.symm
  subst z9
  refine V_iload C dL_law_589 rfl ?_
  refine V_icmp_eq (tgt := 596) C dL_law_591 (by decide) (fun _ => ?_) (fun z9 => absurd rfl z9)
  refine V_iload C dL_law_596 rfl ?_
  refine V_if_ne (tgt := 613) C dL_law_598 (by decide) (fun c598 => ?_) (fun c598 => ?_)
  · refine V_goto (tgt := 1544) C dL_law_613 (by decide) ?_
    exact V_wid (k2 := ce + 80) (n2 := sl + 900) (by show ce + 4 ≤ ce + 80; omega) (by show sl + 30 ≤ sl + 900; omega) (V_wk (by simp [lle]) (k _ (sp_fill X (xs (i + 1))).2.2 _ ⟨Z2, ta2, f2, A, r2.mfr f3, t2, (i_fill hI).mono (by omega), ⟨I3, F3, rm3, hP3⟩, z2, rfl, ho3⟩))
  · have hn := cod_0 c598
    have hb := hb hn
    have hf2 := hf2 hn
    refine V_aload_n (i := 3) C dL_law_601 rfl rfl ?_
    refine V_iconst (v := 0) C dL_law_602 (by decide) ?_
    refine V_lald C dL_law_603 ho3 (vp_in_iff.mpr ⟨by decide, by decide⟩) ?_
    refine V_iload C dL_law_604 rfl ?_
    refine V_i2l C dL_law_606 rfl ?_
    refine V_lcmp C dL_law_607 ?_
    refine V_if_eq (tgt := 613) C dL_law_608 (by decide) (fun _ => ?_) (fun z9 => absurd (by rw [hb]; exact (congrArg (fun z => lg_cmp z _) hf2).trans (lg_self _)) z9)
    refine V_goto (tgt := 1544) C dL_law_613 (by decide) ?_
    exact V_wid (k2 := ce + 80) (n2 := sl + 900) (by show ce + 4 ≤ ce + 80; omega) (by show sl + 30 ≤ sl + 900; omega) (V_wk (by simp [lle]) (k _ (sp_fill X (xs (i + 1))).2.2 _ ⟨Z2, ta2, f2, A, r2.mfr f3, t2, (i_fill hI).mono (by omega), ⟨I3, F3, rm3, hP3⟩, z2, rfl, ho3⟩))
set_option maxHeartbeats 4000000 in
set_option maxRecDepth 100000 in
theorem lc_design (C : Cx p9 s9 m9 meth9 c9 cL_law 7 args9 wsL_law RL D cA bs) (hlt : l.stackTraces = false) (hz : hZ bs s9 s9.heap) (hsz : SZl s9) (hX : va_X b L xs s9 s9.heap) (hbl : b < s9.heap.size) (hbA : ¬ bs ≤ b) (hL : L ≤ 2560) (hi : i + 5 ≤ L) (hce : ce + 80 ≤ 601024) (hsl : sl + 900 ≤ 7293034) (hw : LW cA x mm o M X th h) (hM : M + 100 < 2 ^ 30) (k : ∀ h2 X2 th2, LW cA x mm o (M + 100) X2 th2 h2 → V p9 l e9 room_1 s9 m9 args9 below9 meth9 c9 D bs 7 h2 (ce + 80) (sl + 900) Q 1544 [some (.ref b), some (.ref x), some (.ref mm), some (.ref o), some (.int (nI i)), none, none] []) : V p9 l e9 room_1 s9 m9 args9 below9 meth9 c9 D bs 7 h ce sl Q 616 [some (.ref b), some (.ref x), some (.ref mm), some (.ref o), some (.int (nI i)), none, none] [] := by
  obtain ⟨Z, ta, f, A, r, t, hI, ⟨I, F, rm, hP⟩, rfl, rfl, ho⟩ := hw
  have hd := hI.1.1
  have ht := t.HT
  refine V_aload_n (i := 1) C dL_law_616 rfl rfl ?_
  refine V_aload_n (i := 0) C dL_law_617 rfl rfl ?_
  refine V_iload C dL_law_618 rfl ?_
  refine V_iconst (v := 1) C dL_law_620 (by decide) ?_
  refine V_iadd C dL_law_621 ?_
  refine V_scr C hX hbl hbA dL_law_622 (hi1 i) (by omega) hL rfl ?_
  refine V_aload_n (i := 3) C dL_law_623 rfl rfl ?_
  refine V_ccallS (n := 3) C (w_design (x := (xs (i + 1))) hlt r t hI.1 ho) dL_law_624 gL_law_L_design rfl (by decide +kernel) rfl rfl (by exact Nat.le_of_ble_eq_true rfl) ⟨by show ce + 4 ≤ 601024; omega, by show sl + 30 ≤ 7293034; omega⟩ ⟨Nat.le_of_ble_eq_true rfl, Nat.le_of_ble_eq_true rfl⟩ hz SZl.moves hsz (fun v9 h9 hr9 => ?_)
  obtain ⟨rfl, ⟨Z2, ta2, r2, t2, z2⟩, ⟨f2, ho2, hf2⟩, fr2⟩ := hr9
  have rm2 := rm.ofr ho fr2
  have m0 := rm2.m0
  refine V_istore5 C dL_law_627 (by decide) ?_
  refine V_aload_n (i := 2) C dL_law_629 rfl rfl ?_
  refine V_aload_n (i := 0) C dL_law_630 rfl rfl ?_
  refine V_iload C dL_law_631 rfl ?_
  refine V_iconst (v := 1) C dL_law_633 (by decide) ?_
  refine V_iadd C dL_law_634 ?_
  refine V_scr C hX hbl hbA dL_law_635 (hi1 i) (by omega) hL rfl ?_
  refine V_callV (n := 1) C (q_design (x := (xs (i + 1))) rm2 hI hP) dL_law_636 gL_law_X5_design rfl m0 rfl (by decide +kernel) rfl rfl (by exact Nat.le_of_ble_eq_true rfl) ⟨by show ce + 4 ≤ 601024; omega, by show sl + 30 ≤ 7293034; omega⟩ ⟨Nat.le_of_ble_eq_true rfl, Nat.le_of_ble_eq_true rfl⟩ (fun v9 h9 hr9 => ?_)
  obtain ⟨⟨bv, rfl, hb⟩, ⟨I3, F3, rm3, hP3⟩, f3⟩ := hr9
  have m0 := rm3.m0
  have ho3 := lar_mfr ho2 f3
  refine V_istore6 C dL_law_639 (by decide) ?_
  refine V_aload_n (i := 2) C dL_law_641 rfl rfl ?_
  refine V_callV (n := 0) C (r_thrown rm3) dL_law_642 gL_law_X5_thrown rfl m0 rfl (by decide +kernel) rfl rfl (by exact Nat.le_of_ble_eq_true rfl) ⟨by show ce + 4 ≤ 601024; omega, by show sl + 30 ≤ 7293034; omega⟩ ⟨Nat.le_of_ble_eq_true rfl, Nat.le_of_ble_eq_true rfl⟩ (fun v9 h9 hr9 => ?_)
  obtain ⟨rfl, z9⟩ := hr9
  have z9 := z9.symm
  subst z9
  refine V_iload C dL_law_645 rfl ?_
  refine V_icmp_eq (tgt := 652) C dL_law_647 (by decide) (fun _ => ?_) (fun z9 => absurd rfl z9)
  refine V_iload C dL_law_652 rfl ?_
  refine V_if_ne (tgt := 669) C dL_law_654 (by decide) (fun c654 => ?_) (fun c654 => ?_)
  · refine V_goto (tgt := 1544) C dL_law_669 (by decide) ?_
    exact V_wid (k2 := ce + 80) (n2 := sl + 900) (by show ce + 4 ≤ ce + 80; omega) (by show sl + 30 ≤ sl + 900; omega) (V_wk (by simp [lle]) (k _ (sp_design X (xs (i + 1))).2.2 _ ⟨Z2, ta2, f2, A, r2.mfr f3, t2, (i_design hI).mono (by omega), ⟨I3, F3, rm3, hP3⟩, z2, rfl, ho3⟩))
  · have hn := cod_0 c654
    have hb := hb hn
    have hf2 := hf2 hn
    refine V_aload_n (i := 3) C dL_law_657 rfl rfl ?_
    refine V_iconst (v := 0) C dL_law_658 (by decide) ?_
    refine V_lald C dL_law_659 ho3 (vp_in_iff.mpr ⟨by decide, by decide⟩) ?_
    refine V_iload C dL_law_660 rfl ?_
    refine V_i2l C dL_law_662 rfl ?_
    refine V_lcmp C dL_law_663 ?_
    refine V_if_eq (tgt := 669) C dL_law_664 (by decide) (fun _ => ?_) (fun z9 => absurd (by rw [hb]; exact (congrArg (fun z => lg_cmp z _) hf2).trans (lg_self _)) z9)
    refine V_goto (tgt := 1544) C dL_law_669 (by decide) ?_
    exact V_wid (k2 := ce + 80) (n2 := sl + 900) (by show ce + 4 ≤ ce + 80; omega) (by show sl + 30 ≤ sl + 900; omega) (V_wk (by simp [lle]) (k _ (sp_design X (xs (i + 1))).2.2 _ ⟨Z2, ta2, f2, A, r2.mfr f3, t2, (i_design hI).mono (by omega), ⟨I3, F3, rm3, hP3⟩, z2, rfl, ho3⟩))
set_option maxHeartbeats 4000000 in
set_option maxRecDepth 100000 in
theorem lc_share (C : Cx p9 s9 m9 meth9 c9 cL_law 7 args9 wsL_law RL D cA bs) (hlt : l.stackTraces = false) (hz : hZ bs s9 s9.heap) (hsz : SZl s9) (hX : va_X b L xs s9 s9.heap) (hbl : b < s9.heap.size) (hbA : ¬ bs ≤ b) (hL : L ≤ 2560) (hi : i + 5 ≤ L) (hce : ce + 80 ≤ 601024) (hsl : sl + 900 ≤ 7293034) (hw : LW cA x mm o M X th h) (hM : M + 100 < 2 ^ 30) (k : ∀ h2 X2 th2, LW cA x mm o (M + 100) X2 th2 h2 → V p9 l e9 room_1 s9 m9 args9 below9 meth9 c9 D bs 7 h2 (ce + 80) (sl + 900) Q 1544 [some (.ref b), some (.ref x), some (.ref mm), some (.ref o), some (.int (nI i)), none, none] []) : V p9 l e9 room_1 s9 m9 args9 below9 meth9 c9 D bs 7 h ce sl Q 672 [some (.ref b), some (.ref x), some (.ref mm), some (.ref o), some (.int (nI i)), none, none] [] := by
  obtain ⟨Z, ta, f, A, r, t, hI, ⟨I, F, rm, hP⟩, rfl, rfl, ho⟩ := hw
  have hd := hI.1.1
  have ht := t.HT
  refine V_aload_n (i := 1) C dL_law_672 rfl rfl ?_
  refine V_aload_n (i := 0) C dL_law_673 rfl rfl ?_
  refine V_iload C dL_law_674 rfl ?_
  refine V_iconst (v := 1) C dL_law_676 (by decide) ?_
  refine V_iadd C dL_law_677 ?_
  refine V_scr C hX hbl hbA dL_law_678 (hi1 i) (by omega) hL rfl ?_
  refine V_aload_n (i := 0) C dL_law_679 rfl rfl ?_
  refine V_iload C dL_law_680 rfl ?_
  refine V_iconst (v := 2) C dL_law_682 (by decide) ?_
  refine V_iadd C dL_law_683 ?_
  refine V_scr C hX hbl hbA dL_law_684 (hi2 i) (by omega) hL rfl ?_
  refine V_aload_n (i := 0) C dL_law_685 rfl rfl ?_
  refine V_iload C dL_law_686 rfl ?_
  refine V_iconst (v := 3) C dL_law_688 (by decide) ?_
  refine V_iadd C dL_law_689 ?_
  refine V_scr C hX hbl hbA dL_law_690 (hi3 i) (by omega) hL rfl ?_
  refine V_aload_n (i := 3) C dL_law_691 rfl rfl ?_
  refine V_ccallS (n := 5) C (w_share (x := (xs (i + 1))) (a := (xs (i + 2))) (b := (xs (i + 3))) hlt r t hI.1 ho) dL_law_692 gL_law_L_share rfl (by decide +kernel) rfl rfl (by exact Nat.le_of_ble_eq_true rfl) ⟨by show ce + 4 ≤ 601024; omega, by show sl + 30 ≤ 7293034; omega⟩ ⟨Nat.le_of_ble_eq_true rfl, Nat.le_of_ble_eq_true rfl⟩ hz SZl.moves hsz (fun v9 h9 hr9 => ?_)
  obtain ⟨rfl, ⟨Z2, ta2, r2, t2, z2⟩, ⟨f2, ho2, hf2⟩, fr2⟩ := hr9
  have rm2 := rm.ofr ho fr2
  have m0 := rm2.m0
  refine V_istore5 C dL_law_695 (by decide) ?_
  refine V_aload_n (i := 2) C dL_law_697 rfl rfl ?_
  refine V_aload_n (i := 0) C dL_law_698 rfl rfl ?_
  refine V_iload C dL_law_699 rfl ?_
  refine V_iconst (v := 1) C dL_law_701 (by decide) ?_
  refine V_iadd C dL_law_702 ?_
  refine V_scr C hX hbl hbA dL_law_703 (hi1 i) (by omega) hL rfl ?_
  refine V_aload_n (i := 0) C dL_law_704 rfl rfl ?_
  refine V_iload C dL_law_705 rfl ?_
  refine V_iconst (v := 2) C dL_law_707 (by decide) ?_
  refine V_iadd C dL_law_708 ?_
  refine V_scr C hX hbl hbA dL_law_709 (hi2 i) (by omega) hL rfl ?_
  refine V_aload_n (i := 0) C dL_law_710 rfl rfl ?_
  refine V_iload C dL_law_711 rfl ?_
  refine V_iconst (v := 3) C dL_law_713 (by decide) ?_
  refine V_iadd C dL_law_714 ?_
  refine V_scr C hX hbl hbA dL_law_715 (hi3 i) (by omega) hL rfl ?_
  refine V_callV (n := 3) C (q_share (x := (xs (i + 1))) (a := (xs (i + 2))) (b := (xs (i + 3))) rm2 hI hP) dL_law_716 gL_law_X5_share rfl m0 rfl (by decide +kernel) rfl rfl (by exact Nat.le_of_ble_eq_true rfl) ⟨by show ce + 4 ≤ 601024; omega, by show sl + 30 ≤ 7293034; omega⟩ ⟨Nat.le_of_ble_eq_true rfl, Nat.le_of_ble_eq_true rfl⟩ (fun v9 h9 hr9 => ?_)
  obtain ⟨⟨bv, rfl, hb⟩, ⟨I3, F3, rm3, hP3⟩, f3⟩ := hr9
  have m0 := rm3.m0
  have ho3 := lar_mfr ho2 f3
  refine V_istore6 C dL_law_719 (by decide) ?_
  refine V_aload_n (i := 2) C dL_law_721 rfl rfl ?_
  refine V_callV (n := 0) C (r_thrown rm3) dL_law_722 gL_law_X5_thrown rfl m0 rfl (by decide +kernel) rfl rfl (by exact Nat.le_of_ble_eq_true rfl) ⟨by show ce + 4 ≤ 601024; omega, by show sl + 30 ≤ 7293034; omega⟩ ⟨Nat.le_of_ble_eq_true rfl, Nat.le_of_ble_eq_true rfl⟩ (fun v9 h9 hr9 => ?_)
  obtain ⟨rfl, z9⟩ := hr9
  have z9 := z9.symm
  subst z9
  refine V_iload C dL_law_725 rfl ?_
  refine V_icmp_eq (tgt := 732) C dL_law_727 (by decide) (fun _ => ?_) (fun z9 => absurd rfl z9)
  refine V_iload C dL_law_732 rfl ?_
  refine V_if_ne (tgt := 749) C dL_law_734 (by decide) (fun c734 => ?_) (fun c734 => ?_)
  · refine V_goto (tgt := 1544) C dL_law_749 (by decide) ?_
    exact V_wid (k2 := ce + 80) (n2 := sl + 900) (by show ce + 4 ≤ ce + 80; omega) (by show sl + 30 ≤ sl + 900; omega) (V_wk (by simp [lle]) (k _ (sp_share X (xs (i + 1)) (xs (i + 2)) (xs (i + 3))).2.2 _ ⟨Z2, ta2, f2, A, r2.mfr f3, t2, (i_share hI).mono (by omega), ⟨I3, F3, rm3, hP3⟩, z2, rfl, ho3⟩))
  · have hn := cod_0 c734
    have hb := hb hn
    have hf2 := hf2 hn
    refine V_aload_n (i := 3) C dL_law_737 rfl rfl ?_
    refine V_iconst (v := 0) C dL_law_738 (by decide) ?_
    refine V_lald C dL_law_739 ho3 (vp_in_iff.mpr ⟨by decide, by decide⟩) ?_
    refine V_iload C dL_law_740 rfl ?_
    refine V_i2l C dL_law_742 rfl ?_
    refine V_lcmp C dL_law_743 ?_
    refine V_if_eq (tgt := 749) C dL_law_744 (by decide) (fun _ => ?_) (fun z9 => absurd (by rw [hb]; exact (congrArg (fun z => lg_cmp z _) hf2).trans (lg_self _)) z9)
    refine V_goto (tgt := 1544) C dL_law_749 (by decide) ?_
    exact V_wid (k2 := ce + 80) (n2 := sl + 900) (by show ce + 4 ≤ ce + 80; omega) (by show sl + 30 ≤ sl + 900; omega) (V_wk (by simp [lle]) (k _ (sp_share X (xs (i + 1)) (xs (i + 2)) (xs (i + 3))).2.2 _ ⟨Z2, ta2, f2, A, r2.mfr f3, t2, (i_share hI).mono (by omega), ⟨I3, F3, rm3, hP3⟩, z2, rfl, ho3⟩))
set_option maxHeartbeats 4000000 in
set_option maxRecDepth 100000 in
theorem lc_send (C : Cx p9 s9 m9 meth9 c9 cL_law 7 args9 wsL_law RL D cA bs) (hlt : l.stackTraces = false) (hz : hZ bs s9 s9.heap) (hsz : SZl s9) (hX : va_X b L xs s9 s9.heap) (hbl : b < s9.heap.size) (hbA : ¬ bs ≤ b) (hL : L ≤ 2560) (hi : i + 5 ≤ L) (hce : ce + 80 ≤ 601024) (hsl : sl + 900 ≤ 7293034) (hw : LW cA x mm o M X th h) (hM : M + 100 < 2 ^ 30) (k : ∀ h2 X2 th2, LW cA x mm o (M + 100) X2 th2 h2 → V p9 l e9 room_1 s9 m9 args9 below9 meth9 c9 D bs 7 h2 (ce + 80) (sl + 900) Q 1544 [some (.ref b), some (.ref x), some (.ref mm), some (.ref o), some (.int (nI i)), none, none] []) : V p9 l e9 room_1 s9 m9 args9 below9 meth9 c9 D bs 7 h ce sl Q 752 [some (.ref b), some (.ref x), some (.ref mm), some (.ref o), some (.int (nI i)), none, none] [] := by
  obtain ⟨Z, ta, f, A, r, t, hI, ⟨I, F, rm, hP⟩, rfl, rfl, ho⟩ := hw
  have hd := hI.1.1
  have ht := t.HT
  refine V_aload_n (i := 1) C dL_law_752 rfl rfl ?_
  refine V_aload_n (i := 0) C dL_law_753 rfl rfl ?_
  refine V_iload C dL_law_754 rfl ?_
  refine V_iconst (v := 1) C dL_law_756 (by decide) ?_
  refine V_iadd C dL_law_757 ?_
  refine V_scr C hX hbl hbA dL_law_758 (hi1 i) (by omega) hL rfl ?_
  refine V_aload_n (i := 0) C dL_law_759 rfl rfl ?_
  refine V_iload C dL_law_760 rfl ?_
  refine V_iconst (v := 2) C dL_law_762 (by decide) ?_
  refine V_iadd C dL_law_763 ?_
  refine V_scr C hX hbl hbA dL_law_764 (hi2 i) (by omega) hL rfl ?_
  refine V_aload_n (i := 3) C dL_law_765 rfl rfl ?_
  refine V_ccallS (n := 4) C (w_send (c := (xs (i + 1))) (x := (xs (i + 2))) hlt r t hI.1 ho) dL_law_766 gL_law_L_send rfl (by decide +kernel) rfl rfl (by exact Nat.le_of_ble_eq_true rfl) ⟨by show ce + 4 ≤ 601024; omega, by show sl + 30 ≤ 7293034; omega⟩ ⟨Nat.le_of_ble_eq_true rfl, Nat.le_of_ble_eq_true rfl⟩ hz SZl.moves hsz (fun v9 h9 hr9 => ?_)
  obtain ⟨rfl, ⟨Z2, ta2, r2, t2, z2⟩, ⟨f2, ho2, hf2⟩, fr2⟩ := hr9
  have rm2 := rm.ofr ho fr2
  have m0 := rm2.m0
  refine V_istore5 C dL_law_769 (by decide) ?_
  refine V_aload_n (i := 2) C dL_law_771 rfl rfl ?_
  refine V_aload_n (i := 0) C dL_law_772 rfl rfl ?_
  refine V_iload C dL_law_773 rfl ?_
  refine V_iconst (v := 1) C dL_law_775 (by decide) ?_
  refine V_iadd C dL_law_776 ?_
  refine V_scr C hX hbl hbA dL_law_777 (hi1 i) (by omega) hL rfl ?_
  refine V_aload_n (i := 0) C dL_law_778 rfl rfl ?_
  refine V_iload C dL_law_779 rfl ?_
  refine V_iconst (v := 2) C dL_law_781 (by decide) ?_
  refine V_iadd C dL_law_782 ?_
  refine V_scr C hX hbl hbA dL_law_783 (hi2 i) (by omega) hL rfl ?_
  refine V_callV (n := 2) C (q_send (c := (xs (i + 1))) (x := (xs (i + 2))) rm2 hd hP) dL_law_784 gL_law_X5_send rfl m0 rfl (by decide +kernel) rfl rfl (by exact Nat.le_of_ble_eq_true rfl) ⟨by show ce + 4 ≤ 601024; omega, by show sl + 30 ≤ 7293034; omega⟩ ⟨Nat.le_of_ble_eq_true rfl, Nat.le_of_ble_eq_true rfl⟩ (fun v9 h9 hr9 => ?_)
  obtain ⟨⟨bv, rfl, hb⟩, ⟨I3, F3, rm3, hP3⟩, f3⟩ := hr9
  have m0 := rm3.m0
  have ho3 := lar_mfr ho2 f3
  refine V_istore6 C dL_law_787 (by decide) ?_
  refine V_aload_n (i := 2) C dL_law_789 rfl rfl ?_
  refine V_callV (n := 0) C (r_thrown rm3) dL_law_790 gL_law_X5_thrown rfl m0 rfl (by decide +kernel) rfl rfl (by exact Nat.le_of_ble_eq_true rfl) ⟨by show ce + 4 ≤ 601024; omega, by show sl + 30 ≤ 7293034; omega⟩ ⟨Nat.le_of_ble_eq_true rfl, Nat.le_of_ble_eq_true rfl⟩ (fun v9 h9 hr9 => ?_)
  obtain ⟨rfl, z9⟩ := hr9
  have z9 := z9.symm
  subst z9
  refine V_iload C dL_law_793 rfl ?_
  refine V_icmp_eq (tgt := 800) C dL_law_795 (by decide) (fun _ => ?_) (fun z9 => absurd rfl z9)
  refine V_iload C dL_law_800 rfl ?_
  refine V_if_ne (tgt := 817) C dL_law_802 (by decide) (fun c802 => ?_) (fun c802 => ?_)
  · refine V_goto (tgt := 1544) C dL_law_817 (by decide) ?_
    exact V_wid (k2 := ce + 80) (n2 := sl + 900) (by show ce + 4 ≤ ce + 80; omega) (by show sl + 30 ≤ sl + 900; omega) (V_wk (by simp [lle]) (k _ (sp_send X (xs (i + 1)) (xs (i + 2))).2.2 _ ⟨Z2, ta2, f2, A, r2.mfr f3, t2, (i_send hI).mono (by omega), ⟨I3, F3, rm3, hP3⟩, z2, rfl, ho3⟩))
  · have hn := cod_0 c802
    have hb := hb hn
    have hf2 := hf2 hn
    refine V_aload_n (i := 3) C dL_law_805 rfl rfl ?_
    refine V_iconst (v := 0) C dL_law_806 (by decide) ?_
    refine V_lald C dL_law_807 ho3 (vp_in_iff.mpr ⟨by decide, by decide⟩) ?_
    refine V_iload C dL_law_808 rfl ?_
    refine V_i2l C dL_law_810 rfl ?_
    refine V_lcmp C dL_law_811 ?_
    refine V_if_eq (tgt := 817) C dL_law_812 (by decide) (fun _ => ?_) (fun z9 => absurd (by rw [hb]; exact (congrArg (fun z => lg_cmp z _) hf2).trans (lg_self _)) z9)
    refine V_goto (tgt := 1544) C dL_law_817 (by decide) ?_
    exact V_wid (k2 := ce + 80) (n2 := sl + 900) (by show ce + 4 ≤ ce + 80; omega) (by show sl + 30 ≤ sl + 900; omega) (V_wk (by simp [lle]) (k _ (sp_send X (xs (i + 1)) (xs (i + 2))).2.2 _ ⟨Z2, ta2, f2, A, r2.mfr f3, t2, (i_send hI).mono (by omega), ⟨I3, F3, rm3, hP3⟩, z2, rfl, ho3⟩))
set_option maxHeartbeats 4000000 in
set_option maxRecDepth 100000 in
theorem lc_crew (C : Cx p9 s9 m9 meth9 c9 cL_law 7 args9 wsL_law RL D cA bs) (hlt : l.stackTraces = false) (hz : hZ bs s9 s9.heap) (hsz : SZl s9) (hX : va_X b L xs s9 s9.heap) (hbl : b < s9.heap.size) (hbA : ¬ bs ≤ b) (hL : L ≤ 2560) (hi : i + 5 ≤ L) (hce : ce + 80 ≤ 601024) (hsl : sl + 900 ≤ 7293034) (hw : LW cA x mm o M X th h) (hM : M + 100 < 2 ^ 30) (k : ∀ h2 X2 th2, LW cA x mm o (M + 100) X2 th2 h2 → V p9 l e9 room_1 s9 m9 args9 below9 meth9 c9 D bs 7 h2 (ce + 80) (sl + 900) Q 1544 [some (.ref b), some (.ref x), some (.ref mm), some (.ref o), some (.int (nI i)), none, none] []) : V p9 l e9 room_1 s9 m9 args9 below9 meth9 c9 D bs 7 h ce sl Q 820 [some (.ref b), some (.ref x), some (.ref mm), some (.ref o), some (.int (nI i)), none, none] [] := by
  obtain ⟨Z, ta, f, A, r, t, hI, ⟨I, F, rm, hP⟩, rfl, rfl, ho⟩ := hw
  have hd := hI.1.1
  have ht := t.HT
  refine V_aload_n (i := 1) C dL_law_820 rfl rfl ?_
  refine V_aload_n (i := 0) C dL_law_821 rfl rfl ?_
  refine V_iload C dL_law_822 rfl ?_
  refine V_iconst (v := 1) C dL_law_824 (by decide) ?_
  refine V_iadd C dL_law_825 ?_
  refine V_scr C hX hbl hbA dL_law_826 (hi1 i) (by omega) hL rfl ?_
  refine V_aload_n (i := 0) C dL_law_827 rfl rfl ?_
  refine V_iload C dL_law_828 rfl ?_
  refine V_iconst (v := 2) C dL_law_830 (by decide) ?_
  refine V_iadd C dL_law_831 ?_
  refine V_scr C hX hbl hbA dL_law_832 (hi2 i) (by omega) hL rfl ?_
  refine V_aload_n (i := 0) C dL_law_833 rfl rfl ?_
  refine V_iload C dL_law_834 rfl ?_
  refine V_iconst (v := 3) C dL_law_836 (by decide) ?_
  refine V_iadd C dL_law_837 ?_
  refine V_scr C hX hbl hbA dL_law_838 (hi3 i) (by omega) hL rfl ?_
  refine V_aload_n (i := 3) C dL_law_839 rfl rfl ?_
  refine V_ccallS (n := 5) C (w_crew (c := (xs (i + 1))) (a := (xs (i + 2))) (b := (xs (i + 3))) hlt r t hI.1 ho) dL_law_840 gL_law_L_crew rfl (by decide +kernel) rfl rfl (by exact Nat.le_of_ble_eq_true rfl) ⟨by show ce + 4 ≤ 601024; omega, by show sl + 30 ≤ 7293034; omega⟩ ⟨Nat.le_of_ble_eq_true rfl, Nat.le_of_ble_eq_true rfl⟩ hz SZl.moves hsz (fun v9 h9 hr9 => ?_)
  obtain ⟨rfl, ⟨Z2, ta2, r2, t2, z2⟩, ⟨f2, ho2, hf2⟩, fr2⟩ := hr9
  have rm2 := rm.ofr ho fr2
  have m0 := rm2.m0
  refine V_istore5 C dL_law_843 (by decide) ?_
  refine V_aload_n (i := 2) C dL_law_845 rfl rfl ?_
  refine V_aload_n (i := 0) C dL_law_846 rfl rfl ?_
  refine V_iload C dL_law_847 rfl ?_
  refine V_iconst (v := 1) C dL_law_849 (by decide) ?_
  refine V_iadd C dL_law_850 ?_
  refine V_scr C hX hbl hbA dL_law_851 (hi1 i) (by omega) hL rfl ?_
  refine V_aload_n (i := 0) C dL_law_852 rfl rfl ?_
  refine V_iload C dL_law_853 rfl ?_
  refine V_iconst (v := 2) C dL_law_855 (by decide) ?_
  refine V_iadd C dL_law_856 ?_
  refine V_scr C hX hbl hbA dL_law_857 (hi2 i) (by omega) hL rfl ?_
  refine V_aload_n (i := 0) C dL_law_858 rfl rfl ?_
  refine V_iload C dL_law_859 rfl ?_
  refine V_iconst (v := 3) C dL_law_861 (by decide) ?_
  refine V_iadd C dL_law_862 ?_
  refine V_scr C hX hbl hbA dL_law_863 (hi3 i) (by omega) hL rfl ?_
  refine V_callV (n := 3) C (q_crew (c := (xs (i + 1))) (a := (xs (i + 2))) (b := (xs (i + 3))) rm2 hP) dL_law_864 gL_law_X5_crew rfl m0 rfl (by decide +kernel) rfl rfl (by exact Nat.le_of_ble_eq_true rfl) ⟨by show ce + 4 ≤ 601024; omega, by show sl + 30 ≤ 7293034; omega⟩ ⟨Nat.le_of_ble_eq_true rfl, Nat.le_of_ble_eq_true rfl⟩ (fun v9 h9 hr9 => ?_)
  obtain ⟨⟨bv, rfl, hb⟩, ⟨I3, F3, rm3, hP3⟩, f3⟩ := hr9
  have m0 := rm3.m0
  have ho3 := lar_mfr ho2 f3
  refine V_istore6 C dL_law_867 (by decide) ?_
  refine V_aload_n (i := 2) C dL_law_869 rfl rfl ?_
  refine V_callV (n := 0) C (r_thrown rm3) dL_law_870 gL_law_X5_thrown rfl m0 rfl (by decide +kernel) rfl rfl (by exact Nat.le_of_ble_eq_true rfl) ⟨by show ce + 4 ≤ 601024; omega, by show sl + 30 ≤ 7293034; omega⟩ ⟨Nat.le_of_ble_eq_true rfl, Nat.le_of_ble_eq_true rfl⟩ (fun v9 h9 hr9 => ?_)
  obtain ⟨rfl, z9⟩ := hr9
  have z9 := z9.symm
  subst z9
  refine V_iload C dL_law_873 rfl ?_
  refine V_icmp_eq (tgt := 880) C dL_law_875 (by decide) (fun _ => ?_) (fun z9 => absurd rfl z9)
  refine V_iload C dL_law_880 rfl ?_
  refine V_if_ne (tgt := 897) C dL_law_882 (by decide) (fun c882 => ?_) (fun c882 => ?_)
  · refine V_goto (tgt := 1544) C dL_law_897 (by decide) ?_
    exact V_wid (k2 := ce + 80) (n2 := sl + 900) (by show ce + 4 ≤ ce + 80; omega) (by show sl + 30 ≤ sl + 900; omega) (V_wk (by simp [lle]) (k _ (sp_crew X (xs (i + 1)) (xs (i + 2)) (xs (i + 3))).2.2 _ ⟨Z2, ta2, f2, A, r2.mfr f3, t2, (i_crew hI).mono (by omega), ⟨I3, F3, rm3, hP3⟩, z2, rfl, ho3⟩))
  · have hn := cod_0 c882
    have hb := hb hn
    have hf2 := hf2 hn
    refine V_aload_n (i := 3) C dL_law_885 rfl rfl ?_
    refine V_iconst (v := 0) C dL_law_886 (by decide) ?_
    refine V_lald C dL_law_887 ho3 (vp_in_iff.mpr ⟨by decide, by decide⟩) ?_
    refine V_iload C dL_law_888 rfl ?_
    refine V_i2l C dL_law_890 rfl ?_
    refine V_lcmp C dL_law_891 ?_
    refine V_if_eq (tgt := 897) C dL_law_892 (by decide) (fun _ => ?_) (fun z9 => absurd (by rw [hb]; exact (congrArg (fun z => lg_cmp z _) hf2).trans (lg_self _)) z9)
    refine V_goto (tgt := 1544) C dL_law_897 (by decide) ?_
    exact V_wid (k2 := ce + 80) (n2 := sl + 900) (by show ce + 4 ≤ ce + 80; omega) (by show sl + 30 ≤ sl + 900; omega) (V_wk (by simp [lle]) (k _ (sp_crew X (xs (i + 1)) (xs (i + 2)) (xs (i + 3))).2.2 _ ⟨Z2, ta2, f2, A, r2.mfr f3, t2, (i_crew hI).mono (by omega), ⟨I3, F3, rm3, hP3⟩, z2, rfl, ho3⟩))
set_option maxHeartbeats 4000000 in
set_option maxRecDepth 100000 in
theorem lc_tray (C : Cx p9 s9 m9 meth9 c9 cL_law 7 args9 wsL_law RL D cA bs) (hlt : l.stackTraces = false) (hz : hZ bs s9 s9.heap) (hsz : SZl s9) (hX : va_X b L xs s9 s9.heap) (hbl : b < s9.heap.size) (hbA : ¬ bs ≤ b) (hL : L ≤ 2560) (hi : i + 5 ≤ L) (hce : ce + 80 ≤ 601024) (hsl : sl + 900 ≤ 7293034) (hw : LW cA x mm o M X th h) (hM : M + 100 < 2 ^ 30) (k : ∀ h2 X2 th2, LW cA x mm o (M + 100) X2 th2 h2 → V p9 l e9 room_1 s9 m9 args9 below9 meth9 c9 D bs 7 h2 (ce + 80) (sl + 900) Q 1544 [some (.ref b), some (.ref x), some (.ref mm), some (.ref o), some (.int (nI i)), none, none] []) : V p9 l e9 room_1 s9 m9 args9 below9 meth9 c9 D bs 7 h ce sl Q 900 [some (.ref b), some (.ref x), some (.ref mm), some (.ref o), some (.int (nI i)), none, none] [] := by
  obtain ⟨Z, ta, f, A, r, t, hI, ⟨I, F, rm, hP⟩, rfl, rfl, ho⟩ := hw
  have hd := hI.1.1
  have ht := t.HT
  refine V_aload_n (i := 1) C dL_law_900 rfl rfl ?_
  refine V_aload_n (i := 0) C dL_law_901 rfl rfl ?_
  refine V_iload C dL_law_902 rfl ?_
  refine V_iconst (v := 1) C dL_law_904 (by decide) ?_
  refine V_iadd C dL_law_905 ?_
  refine V_scr C hX hbl hbA dL_law_906 (hi1 i) (by omega) hL rfl ?_
  refine V_aload_n (i := 0) C dL_law_907 rfl rfl ?_
  refine V_iload C dL_law_908 rfl ?_
  refine V_iconst (v := 2) C dL_law_910 (by decide) ?_
  refine V_iadd C dL_law_911 ?_
  refine V_scr C hX hbl hbA dL_law_912 (hi2 i) (by omega) hL rfl ?_
  refine V_aload_n (i := 3) C dL_law_913 rfl rfl ?_
  refine V_ccallS (n := 4) C (w_tray (c := (xs (i + 1))) (a := (xs (i + 2))) hlt r t hI.1 ho) dL_law_914 gL_law_L_tray rfl (by decide +kernel) rfl rfl (by exact Nat.le_of_ble_eq_true rfl) ⟨by show ce + 4 ≤ 601024; omega, by show sl + 30 ≤ 7293034; omega⟩ ⟨Nat.le_of_ble_eq_true rfl, Nat.le_of_ble_eq_true rfl⟩ hz SZl.moves hsz (fun v9 h9 hr9 => ?_)
  obtain ⟨rfl, ⟨Z2, ta2, r2, t2, z2⟩, ⟨f2, ho2, hf2⟩, fr2⟩ := hr9
  have rm2 := rm.ofr ho fr2
  have m0 := rm2.m0
  refine V_istore5 C dL_law_917 (by decide) ?_
  refine V_aload_n (i := 2) C dL_law_919 rfl rfl ?_
  refine V_aload_n (i := 0) C dL_law_920 rfl rfl ?_
  refine V_iload C dL_law_921 rfl ?_
  refine V_iconst (v := 1) C dL_law_923 (by decide) ?_
  refine V_iadd C dL_law_924 ?_
  refine V_scr C hX hbl hbA dL_law_925 (hi1 i) (by omega) hL rfl ?_
  refine V_aload_n (i := 0) C dL_law_926 rfl rfl ?_
  refine V_iload C dL_law_927 rfl ?_
  refine V_iconst (v := 2) C dL_law_929 (by decide) ?_
  refine V_iadd C dL_law_930 ?_
  refine V_scr C hX hbl hbA dL_law_931 (hi2 i) (by omega) hL rfl ?_
  refine V_callV (n := 2) C (q_tray (c := (xs (i + 1))) (a := (xs (i + 2))) rm2 hd hP ht) dL_law_932 gL_law_X5_tray rfl m0 rfl (by decide +kernel) rfl rfl (by exact Nat.le_of_ble_eq_true rfl) ⟨by show ce + 4 ≤ 601024; omega, by show sl + 30 ≤ 7293034; omega⟩ ⟨Nat.le_of_ble_eq_true rfl, Nat.le_of_ble_eq_true rfl⟩ (fun v9 h9 hr9 => ?_)
  obtain ⟨⟨bv, rfl, hb⟩, ⟨I3, F3, rm3, hP3⟩, f3⟩ := hr9
  have m0 := rm3.m0
  have ho3 := lar_mfr ho2 f3
  refine V_istore6 C dL_law_935 (by decide) ?_
  refine V_aload_n (i := 2) C dL_law_937 rfl rfl ?_
  refine V_callV (n := 0) C (r_thrown rm3) dL_law_938 gL_law_X5_thrown rfl m0 rfl (by decide +kernel) rfl rfl (by exact Nat.le_of_ble_eq_true rfl) ⟨by show ce + 4 ≤ 601024; omega, by show sl + 30 ≤ 7293034; omega⟩ ⟨Nat.le_of_ble_eq_true rfl, Nat.le_of_ble_eq_true rfl⟩ (fun v9 h9 hr9 => ?_)
  obtain ⟨rfl, z9⟩ := hr9
  have z9 := z9.symm
  subst z9
  refine V_iload C dL_law_941 rfl ?_
  refine V_icmp_eq (tgt := 948) C dL_law_943 (by decide) (fun _ => ?_) (fun z9 => absurd rfl z9)
  refine V_iload C dL_law_948 rfl ?_
  refine V_if_ne (tgt := 965) C dL_law_950 (by decide) (fun c950 => ?_) (fun c950 => ?_)
  · refine V_goto (tgt := 1544) C dL_law_965 (by decide) ?_
    exact V_wid (k2 := ce + 80) (n2 := sl + 900) (by show ce + 4 ≤ ce + 80; omega) (by show sl + 30 ≤ sl + 900; omega) (V_wk (by simp [lle]) (k _ (sp_tray X (xs (i + 1)) (xs (i + 2))).2.2 _ ⟨Z2, ta2, f2, A, r2.mfr f3, t2, (i_tray hI).mono (by omega), ⟨I3, F3, rm3, hP3⟩, z2, rfl, ho3⟩))
  · have hn := cod_0 c950
    have hb := hb hn
    have hf2 := hf2 hn
    refine V_aload_n (i := 3) C dL_law_953 rfl rfl ?_
    refine V_iconst (v := 0) C dL_law_954 (by decide) ?_
    refine V_lald C dL_law_955 ho3 (vp_in_iff.mpr ⟨by decide, by decide⟩) ?_
    refine V_iload C dL_law_956 rfl ?_
    refine V_i2l C dL_law_958 rfl ?_
    refine V_lcmp C dL_law_959 ?_
    refine V_if_eq (tgt := 965) C dL_law_960 (by decide) (fun _ => ?_) (fun z9 => absurd (by rw [hb]; exact (congrArg (fun z => lg_cmp z _) hf2).trans (lg_self _)) z9)
    refine V_goto (tgt := 1544) C dL_law_965 (by decide) ?_
    exact V_wid (k2 := ce + 80) (n2 := sl + 900) (by show ce + 4 ≤ ce + 80; omega) (by show sl + 30 ≤ sl + 900; omega) (V_wk (by simp [lle]) (k _ (sp_tray X (xs (i + 1)) (xs (i + 2))).2.2 _ ⟨Z2, ta2, f2, A, r2.mfr f3, t2, (i_tray hI).mono (by omega), ⟨I3, F3, rm3, hP3⟩, z2, rfl, ho3⟩))
set_option maxHeartbeats 4000000 in
set_option maxRecDepth 100000 in
theorem lc_load (C : Cx p9 s9 m9 meth9 c9 cL_law 7 args9 wsL_law RL D cA bs) (hlt : l.stackTraces = false) (hz : hZ bs s9 s9.heap) (hsz : SZl s9) (hX : va_X b L xs s9 s9.heap) (hbl : b < s9.heap.size) (hbA : ¬ bs ≤ b) (hL : L ≤ 2560) (hi : i + 5 ≤ L) (hce : ce + 80 ≤ 601024) (hsl : sl + 900 ≤ 7293034) (hw : LW cA x mm o M X th h) (hM : M + 100 < 2 ^ 30) (k : ∀ h2 X2 th2, LW cA x mm o (M + 100) X2 th2 h2 → V p9 l e9 room_1 s9 m9 args9 below9 meth9 c9 D bs 7 h2 (ce + 80) (sl + 900) Q 1544 [some (.ref b), some (.ref x), some (.ref mm), some (.ref o), some (.int (nI i)), none, none] []) : V p9 l e9 room_1 s9 m9 args9 below9 meth9 c9 D bs 7 h ce sl Q 968 [some (.ref b), some (.ref x), some (.ref mm), some (.ref o), some (.int (nI i)), none, none] [] := by
  obtain ⟨Z, ta, f, A, r, t, hI, ⟨I, F, rm, hP⟩, rfl, rfl, ho⟩ := hw
  have hd := hI.1.1
  have ht := t.HT
  refine V_aload_n (i := 1) C dL_law_968 rfl rfl ?_
  refine V_aload_n (i := 0) C dL_law_969 rfl rfl ?_
  refine V_iload C dL_law_970 rfl ?_
  refine V_iconst (v := 1) C dL_law_972 (by decide) ?_
  refine V_iadd C dL_law_973 ?_
  refine V_scr C hX hbl hbA dL_law_974 (hi1 i) (by omega) hL rfl ?_
  refine V_aload_n (i := 0) C dL_law_975 rfl rfl ?_
  refine V_iload C dL_law_976 rfl ?_
  refine V_iconst (v := 2) C dL_law_978 (by decide) ?_
  refine V_iadd C dL_law_979 ?_
  refine V_scr C hX hbl hbA dL_law_980 (hi2 i) (by omega) hL rfl ?_
  refine V_aload_n (i := 3) C dL_law_981 rfl rfl ?_
  refine V_ccallS (n := 4) C (w_load (c := (xs (i + 1))) (a := (xs (i + 2))) hlt r t hI.1 ho) dL_law_982 gL_law_L_load rfl (by decide +kernel) rfl rfl (by exact Nat.le_of_ble_eq_true rfl) ⟨by show ce + 4 ≤ 601024; omega, by show sl + 30 ≤ 7293034; omega⟩ ⟨Nat.le_of_ble_eq_true rfl, Nat.le_of_ble_eq_true rfl⟩ hz SZl.moves hsz (fun v9 h9 hr9 => ?_)
  obtain ⟨rfl, ⟨Z2, ta2, r2, t2, z2⟩, ⟨f2, ho2, hf2⟩, fr2⟩ := hr9
  have rm2 := rm.ofr ho fr2
  have m0 := rm2.m0
  refine V_istore5 C dL_law_985 (by decide) ?_
  refine V_aload_n (i := 2) C dL_law_987 rfl rfl ?_
  refine V_aload_n (i := 0) C dL_law_988 rfl rfl ?_
  refine V_iload C dL_law_989 rfl ?_
  refine V_iconst (v := 1) C dL_law_991 (by decide) ?_
  refine V_iadd C dL_law_992 ?_
  refine V_scr C hX hbl hbA dL_law_993 (hi1 i) (by omega) hL rfl ?_
  refine V_aload_n (i := 0) C dL_law_994 rfl rfl ?_
  refine V_iload C dL_law_995 rfl ?_
  refine V_iconst (v := 2) C dL_law_997 (by decide) ?_
  refine V_iadd C dL_law_998 ?_
  refine V_scr C hX hbl hbA dL_law_999 (hi2 i) (by omega) hL rfl ?_
  refine V_callV (n := 2) C (q_load (c := (xs (i + 1))) (a := (xs (i + 2))) rm2 hd hP ht) dL_law_1000 gL_law_X5_load rfl m0 rfl (by decide +kernel) rfl rfl (by exact Nat.le_of_ble_eq_true rfl) ⟨by show ce + 4 ≤ 601024; omega, by show sl + 30 ≤ 7293034; omega⟩ ⟨Nat.le_of_ble_eq_true rfl, Nat.le_of_ble_eq_true rfl⟩ (fun v9 h9 hr9 => ?_)
  obtain ⟨⟨bv, rfl, hb⟩, ⟨I3, F3, rm3, hP3⟩, f3⟩ := hr9
  have m0 := rm3.m0
  have ho3 := lar_mfr ho2 f3
  refine V_istore6 C dL_law_1003 (by decide) ?_
  refine V_aload_n (i := 2) C dL_law_1005 rfl rfl ?_
  refine V_callV (n := 0) C (r_thrown rm3) dL_law_1006 gL_law_X5_thrown rfl m0 rfl (by decide +kernel) rfl rfl (by exact Nat.le_of_ble_eq_true rfl) ⟨by show ce + 4 ≤ 601024; omega, by show sl + 30 ≤ 7293034; omega⟩ ⟨Nat.le_of_ble_eq_true rfl, Nat.le_of_ble_eq_true rfl⟩ (fun v9 h9 hr9 => ?_)
  obtain ⟨rfl, z9⟩ := hr9
  have z9 := z9.symm
  subst z9
  refine V_iload C dL_law_1009 rfl ?_
  refine V_icmp_eq (tgt := 1016) C dL_law_1011 (by decide) (fun _ => ?_) (fun z9 => absurd rfl z9)
  refine V_iload C dL_law_1016 rfl ?_
  refine V_if_ne (tgt := 1040) C dL_law_1018 (by decide) (fun c1018 => ?_) (fun c1018 => ?_)
  · refine V_goto (tgt := 1544) C dL_law_1040 (by decide) ?_
    exact V_wid (k2 := ce + 80) (n2 := sl + 900) (by show ce + 4 ≤ ce + 80; omega) (by show sl + 30 ≤ sl + 900; omega) (V_wk (by simp [lle]) (k _ (sp_load X (xs (i + 1)) (xs (i + 2))).2.2 _ ⟨Z2, ta2, f2, A, r2.mfr f3, t2, (i_load hI).mono (by omega), ⟨I3, F3, rm3, hP3⟩, z2, rfl, ho3⟩))
  · have hn := cod_0 c1018
    have hb := hb hn
    have hf2 := hf2 hn
    refine V_aload_n (i := 3) C dL_law_1021 rfl rfl ?_
    refine V_iconst (v := 0) C dL_law_1022 (by decide) ?_
    refine V_lald C dL_law_1023 ho3 (vp_in_iff.mpr ⟨by decide, by decide⟩) ?_
    refine V_iload C dL_law_1024 rfl ?_
    refine V_if_eq (tgt := 1033) C dL_law_1026 (by decide) (fun c1026 => ?_) (fun c1026 => ?_)
    · have c1026 : bv = 0 := c1026
      have e9 : f2 0 = 0 := hf2.trans (by rw [← hb, c1026]; rfl)
      refine V_lconst C dL_law_1033 rfl ?_
      refine V_lcmp C dL_law_1034 ?_
      refine V_if_eq (tgt := 1040) C dL_law_1035 (by decide) (fun _ => ?_) (fun z9 => absurd ((congrArg (fun z => lg_cmp z _) e9).trans (lg_self _)) z9)
      refine V_goto (tgt := 1544) C dL_law_1040 (by decide) ?_
      exact V_wid (k2 := ce + 80) (n2 := sl + 900) (by show ce + 4 ≤ ce + 80; omega) (by show sl + 30 ≤ sl + 900; omega) (V_wk (by simp [lle]) (k _ (sp_load X (xs (i + 1)) (xs (i + 2))).2.2 _ ⟨Z2, ta2, f2, A, r2.mfr f3, t2, (i_load hI).mono (by omega), ⟨I3, F3, rm3, hP3⟩, z2, rfl, ho3⟩))
    · have c1026 : ¬ bv = 0 := c1026
      have e9 : f2 0 = 1 := hf2.trans (by rw [(ld01 (X := X) (c := xs (i + 1)) (a := xs (i + 2))).resolve_left (fun z => c1026 (hb.trans z))]; rfl)
      refine V_lconst C dL_law_1029 rfl ?_
      refine V_goto (tgt := 1034) C dL_law_1030 (by decide) ?_
      refine V_lcmp C dL_law_1034 ?_
      refine V_if_eq (tgt := 1040) C dL_law_1035 (by decide) (fun _ => ?_) (fun z9 => absurd ((congrArg (fun z => lg_cmp z _) e9).trans (lg_self _)) z9)
      refine V_goto (tgt := 1544) C dL_law_1040 (by decide) ?_
      exact V_wid (k2 := ce + 80) (n2 := sl + 900) (by show ce + 4 ≤ ce + 80; omega) (by show sl + 30 ≤ sl + 900; omega) (V_wk (by simp [lle]) (k _ (sp_load X (xs (i + 1)) (xs (i + 2))).2.2 _ ⟨Z2, ta2, f2, A, r2.mfr f3, t2, (i_load hI).mono (by omega), ⟨I3, F3, rm3, hP3⟩, z2, rfl, ho3⟩))
set_option maxHeartbeats 4000000 in
set_option maxRecDepth 100000 in
theorem lc_pass (C : Cx p9 s9 m9 meth9 c9 cL_law 7 args9 wsL_law RL D cA bs) (hlt : l.stackTraces = false) (hz : hZ bs s9 s9.heap) (hsz : SZl s9) (hX : va_X b L xs s9 s9.heap) (hbl : b < s9.heap.size) (hbA : ¬ bs ≤ b) (hL : L ≤ 2560) (hi : i + 5 ≤ L) (hce : ce + 80 ≤ 601024) (hsl : sl + 900 ≤ 7293034) (hw : LW cA x mm o M X th h) (hM : M + 100 < 2 ^ 30) (k : ∀ h2 X2 th2, LW cA x mm o (M + 100) X2 th2 h2 → V p9 l e9 room_1 s9 m9 args9 below9 meth9 c9 D bs 7 h2 (ce + 80) (sl + 900) Q 1544 [some (.ref b), some (.ref x), some (.ref mm), some (.ref o), some (.int (nI i)), none, none] []) : V p9 l e9 room_1 s9 m9 args9 below9 meth9 c9 D bs 7 h ce sl Q 1043 [some (.ref b), some (.ref x), some (.ref mm), some (.ref o), some (.int (nI i)), none, none] [] := by
  obtain ⟨Z, ta, f, A, r, t, hI, ⟨I, F, rm, hP⟩, rfl, rfl, ho⟩ := hw
  have hd := hI.1.1
  have ht := t.HT
  refine V_aload_n (i := 1) C dL_law_1043 rfl rfl ?_
  refine V_aload_n (i := 0) C dL_law_1044 rfl rfl ?_
  refine V_iload C dL_law_1045 rfl ?_
  refine V_iconst (v := 1) C dL_law_1047 (by decide) ?_
  refine V_iadd C dL_law_1048 ?_
  refine V_scr C hX hbl hbA dL_law_1049 (hi1 i) (by omega) hL rfl ?_
  refine V_aload_n (i := 3) C dL_law_1050 rfl rfl ?_
  refine V_ccallS (n := 3) C (w_pass (a := (xs (i + 1))) hlt r t hI ho) dL_law_1051 gL_law_L_pass rfl (by decide +kernel) rfl rfl (by exact Nat.le_of_ble_eq_true rfl) ⟨by show ce + 4 ≤ 601024; omega, by show sl + 30 ≤ 7293034; omega⟩ ⟨Nat.le_of_ble_eq_true rfl, Nat.le_of_ble_eq_true rfl⟩ hz SZl.moves hsz (fun v9 h9 hr9 => ?_)
  obtain ⟨rfl, ⟨Z2, ta2, r2, t2, z2⟩, ⟨f2, ho2, hf2⟩, fr2⟩ := hr9
  have rm2 := rm.ofr ho fr2
  have m0 := rm2.m0
  refine V_istore5 C dL_law_1054 (by decide) ?_
  refine V_aload_n (i := 2) C dL_law_1056 rfl rfl ?_
  refine V_aload_n (i := 0) C dL_law_1057 rfl rfl ?_
  refine V_iload C dL_law_1058 rfl ?_
  refine V_iconst (v := 1) C dL_law_1060 (by decide) ?_
  refine V_iadd C dL_law_1061 ?_
  refine V_scr C hX hbl hbA dL_law_1062 (hi1 i) (by omega) hL rfl ?_
  refine V_callV (n := 1) C (q_pass (a := (xs (i + 1))) rm2 hI ht hM hP) dL_law_1063 gL_law_X5_pass rfl m0 rfl (by decide +kernel) rfl rfl (by exact Nat.le_of_ble_eq_true rfl) ⟨by show ce + 4 ≤ 601024; omega, by show sl + 30 ≤ 7293034; omega⟩ ⟨Nat.le_of_ble_eq_true rfl, Nat.le_of_ble_eq_true rfl⟩ (fun v9 h9 hr9 => ?_)
  obtain ⟨⟨bv, rfl, hb⟩, ⟨I3, F3, rm3, hP3⟩, f3⟩ := hr9
  have m0 := rm3.m0
  have ho3 := lar_mfr ho2 f3
  refine V_istore6 C dL_law_1066 (by decide) ?_
  refine V_aload_n (i := 2) C dL_law_1068 rfl rfl ?_
  refine V_callV (n := 0) C (r_thrown rm3) dL_law_1069 gL_law_X5_thrown rfl m0 rfl (by decide +kernel) rfl rfl (by exact Nat.le_of_ble_eq_true rfl) ⟨by show ce + 4 ≤ 601024; omega, by show sl + 30 ≤ 7293034; omega⟩ ⟨Nat.le_of_ble_eq_true rfl, Nat.le_of_ble_eq_true rfl⟩ (fun v9 h9 hr9 => ?_)
  obtain ⟨rfl, z9⟩ := hr9
  have z9 := z9.symm
  subst z9
  refine V_iload C dL_law_1072 rfl ?_
  refine V_icmp_eq (tgt := 1079) C dL_law_1074 (by decide) (fun _ => ?_) (fun z9 => absurd rfl z9)
  refine V_iload C dL_law_1079 rfl ?_
  refine V_if_ne (tgt := 1096) C dL_law_1081 (by decide) (fun c1081 => ?_) (fun c1081 => ?_)
  · refine V_goto (tgt := 1544) C dL_law_1096 (by decide) ?_
    exact V_wid (k2 := ce + 80) (n2 := sl + 900) (by show ce + 4 ≤ ce + 80; omega) (by show sl + 30 ≤ sl + 900; omega) (V_wk (by simp [lle]) (k _ (sp_pass X (xs (i + 1))).2.2 _ ⟨Z2, ta2, f2, A, r2.mfr f3, t2, (i_pass hI ht hM).1, ⟨I3, F3, rm3, hP3⟩, z2, rfl, ho3⟩))
  · have hn := cod_0 c1081
    have hb := hb hn
    have hf2 := hf2 hn
    refine V_aload_n (i := 3) C dL_law_1084 rfl rfl ?_
    refine V_iconst (v := 0) C dL_law_1085 (by decide) ?_
    refine V_lald C dL_law_1086 ho3 (vp_in_iff.mpr ⟨by decide, by decide⟩) ?_
    refine V_iload C dL_law_1087 rfl ?_
    refine V_i2l C dL_law_1089 rfl ?_
    refine V_lcmp C dL_law_1090 ?_
    refine V_if_eq (tgt := 1096) C dL_law_1091 (by decide) (fun _ => ?_) (fun z9 => absurd (by rw [hb]; exact (congrArg (fun z => lg_cmp z _) hf2).trans (lg_self _)) z9)
    refine V_goto (tgt := 1544) C dL_law_1096 (by decide) ?_
    exact V_wid (k2 := ce + 80) (n2 := sl + 900) (by show ce + 4 ≤ ce + 80; omega) (by show sl + 30 ≤ sl + 900; omega) (V_wk (by simp [lle]) (k _ (sp_pass X (xs (i + 1))).2.2 _ ⟨Z2, ta2, f2, A, r2.mfr f3, t2, (i_pass hI ht hM).1, ⟨I3, F3, rm3, hP3⟩, z2, rfl, ho3⟩))
set_option maxHeartbeats 4000000 in
set_option maxRecDepth 100000 in
theorem lc_hour (C : Cx p9 s9 m9 meth9 c9 cL_law 7 args9 wsL_law RL D cA bs) (hlt : l.stackTraces = false) (hz : hZ bs s9 s9.heap) (hsz : SZl s9) (hX : va_X b L xs s9 s9.heap) (hbl : b < s9.heap.size) (hbA : ¬ bs ≤ b) (hL : L ≤ 2560) (hi : i + 5 ≤ L) (hce : ce + 80 ≤ 601024) (hsl : sl + 900 ≤ 7293034) (hw : LW cA x mm o M X th h) (hM : M + 100 < 2 ^ 30) (k : ∀ h2 X2 th2, LW cA x mm o (M + 100) X2 th2 h2 → V p9 l e9 room_1 s9 m9 args9 below9 meth9 c9 D bs 7 h2 (ce + 80) (sl + 900) Q 1544 [some (.ref b), some (.ref x), some (.ref mm), some (.ref o), some (.int (nI i)), none, none] []) : V p9 l e9 room_1 s9 m9 args9 below9 meth9 c9 D bs 7 h ce sl Q 1099 [some (.ref b), some (.ref x), some (.ref mm), some (.ref o), some (.int (nI i)), none, none] [] := by
  obtain ⟨Z, ta, f, A, r, t, hI, ⟨I, F, rm, hP⟩, rfl, rfl, ho⟩ := hw
  have hd := hI.1.1
  have ht := t.HT
  have hrow := r.row
  have m0 := rm.m0
  refine V_aload_n (i := 1) C dL_law_1099 rfl rfl ?_
  refine V_callV (n := 0) C (m_hour r) dL_law_1100 gL_law_X4_hour rfl hrow rfl (by decide +kernel) rfl rfl (by exact Nat.le_of_ble_eq_true rfl) ⟨by show ce ≤ 601024; omega, by show sl ≤ 7293034; omega⟩ ⟨Nat.le_of_ble_eq_true rfl, Nat.le_of_ble_eq_true rfl⟩ (fun v9 h9 hr9 => ?_)
  obtain ⟨rfl, z9⟩ := hr9
  have z9 := z9.symm
  subst z9
  refine V_aload_n (i := 2) C dL_law_1103 rfl rfl ?_
  refine V_callV (n := 0) C (q_hour rm hP) dL_law_1104 gL_law_X5_hour rfl m0 rfl (by decide +kernel) rfl rfl (by exact Nat.le_of_ble_eq_true rfl) ⟨by show ce ≤ 601024; omega, by show sl ≤ 7293034; omega⟩ ⟨Nat.le_of_ble_eq_true rfl, Nat.le_of_ble_eq_true rfl⟩ (fun v9 h9 hr9 => ?_)
  obtain ⟨⟨bv, rfl, hb⟩, ⟨I3, F3, rm3, hP3⟩, f3⟩ := hr9
  have hb := hb rfl
  have ho3 := lar_mfr ho f3
  refine V_icmp_eq (tgt := 1544) C dL_law_1107 (by decide) (fun _ => ?_) (fun z9 => absurd (show xnw X = bv from hb.symm) z9)
  exact V_wid (k2 := ce + 80) (n2 := sl + 900) (by omega) (by omega) (V_wk (by simp [lle]) (k _ _ _ ⟨Z, ta, f, A, r.mfr f3, t, hI.mono (by omega), ⟨I3, F3, rm3, hP3⟩, rfl, rfl, ho3⟩))
set_option maxHeartbeats 4000000 in
set_option maxRecDepth 100000 in
theorem lc_ofCell (C : Cx p9 s9 m9 meth9 c9 cL_law 7 args9 wsL_law RL D cA bs) (hlt : l.stackTraces = false) (hz : hZ bs s9 s9.heap) (hsz : SZl s9) (hX : va_X b L xs s9 s9.heap) (hbl : b < s9.heap.size) (hbA : ¬ bs ≤ b) (hL : L ≤ 2560) (hi : i + 5 ≤ L) (hce : ce + 80 ≤ 601024) (hsl : sl + 900 ≤ 7293034) (hw : LW cA x mm o M X th h) (hM : M + 100 < 2 ^ 30) (k : ∀ h2 X2 th2, LW cA x mm o (M + 100) X2 th2 h2 → V p9 l e9 room_1 s9 m9 args9 below9 meth9 c9 D bs 7 h2 (ce + 80) (sl + 900) Q 1544 [some (.ref b), some (.ref x), some (.ref mm), some (.ref o), some (.int (nI i)), none, none] []) : V p9 l e9 room_1 s9 m9 args9 below9 meth9 c9 D bs 7 h ce sl Q 1112 [some (.ref b), some (.ref x), some (.ref mm), some (.ref o), some (.int (nI i)), none, none] [] := by
  obtain ⟨Z, ta, f, A, r, t, hI, ⟨I, F, rm, hP⟩, rfl, rfl, ho⟩ := hw
  have hd := hI.1.1
  have ht := t.HT
  refine V_aload_n (i := 1) C dL_law_1112 rfl rfl ?_
  refine V_aload_n (i := 0) C dL_law_1113 rfl rfl ?_
  refine V_iload C dL_law_1114 rfl ?_
  refine V_iconst (v := 1) C dL_law_1116 (by decide) ?_
  refine V_iadd C dL_law_1117 ?_
  refine V_scr C hX hbl hbA dL_law_1118 (hi1 i) (by omega) hL rfl ?_
  refine V_aload_n (i := 0) C dL_law_1119 rfl rfl ?_
  refine V_iload C dL_law_1120 rfl ?_
  refine V_iconst (v := 2) C dL_law_1122 (by decide) ?_
  refine V_iadd C dL_law_1123 ?_
  refine V_scr C hX hbl hbA dL_law_1124 (hi2 i) (by omega) hL rfl ?_
  refine V_aload_n (i := 0) C dL_law_1125 rfl rfl ?_
  refine V_iload C dL_law_1126 rfl ?_
  refine V_iconst (v := 3) C dL_law_1128 (by decide) ?_
  refine V_iadd C dL_law_1129 ?_
  refine V_scr C hX hbl hbA dL_law_1130 (hi3 i) (by omega) hL rfl ?_
  refine V_aload_n (i := 0) C dL_law_1131 rfl rfl ?_
  refine V_iload C dL_law_1132 rfl ?_
  refine V_iconst (v := 4) C dL_law_1134 (by decide) ?_
  refine V_iadd C dL_law_1135 ?_
  refine V_scr C hX hbl hbA dL_law_1136 (hi4 i) (by omega) hL rfl ?_
  refine V_aload_n (i := 3) C dL_law_1137 rfl rfl ?_
  refine V_ccallS (n := 6) C (w_ofCell (a := (xs (i + 1))) (b := (xs (i + 2))) (c := (xs (i + 3))) (d := (xs (i + 4))) hlt r t hI ho) dL_law_1138 gL_law_L_ofCell rfl (by decide +kernel) rfl rfl (by exact Nat.le_of_ble_eq_true rfl) ⟨by show ce + 4 ≤ 601024; omega, by show sl + 30 ≤ 7293034; omega⟩ ⟨Nat.le_of_ble_eq_true rfl, Nat.le_of_ble_eq_true rfl⟩ hz SZl.moves hsz (fun v9 h9 hr9 => ?_)
  obtain ⟨rfl, ⟨Z2, ta2, r2, t2, z2⟩, ⟨f2, ho2, hf2⟩, fr2⟩ := hr9
  have rm2 := rm.ofr ho fr2
  have m0 := rm2.m0
  refine V_istore5 C dL_law_1141 (by decide) ?_
  refine V_aload_n (i := 2) C dL_law_1143 rfl rfl ?_
  refine V_aload_n (i := 0) C dL_law_1144 rfl rfl ?_
  refine V_iload C dL_law_1145 rfl ?_
  refine V_iconst (v := 1) C dL_law_1147 (by decide) ?_
  refine V_iadd C dL_law_1148 ?_
  refine V_scr C hX hbl hbA dL_law_1149 (hi1 i) (by omega) hL rfl ?_
  refine V_aload_n (i := 0) C dL_law_1150 rfl rfl ?_
  refine V_iload C dL_law_1151 rfl ?_
  refine V_iconst (v := 2) C dL_law_1153 (by decide) ?_
  refine V_iadd C dL_law_1154 ?_
  refine V_scr C hX hbl hbA dL_law_1155 (hi2 i) (by omega) hL rfl ?_
  refine V_aload_n (i := 0) C dL_law_1156 rfl rfl ?_
  refine V_iload C dL_law_1157 rfl ?_
  refine V_iconst (v := 3) C dL_law_1159 (by decide) ?_
  refine V_iadd C dL_law_1160 ?_
  refine V_scr C hX hbl hbA dL_law_1161 (hi3 i) (by omega) hL rfl ?_
  refine V_aload_n (i := 0) C dL_law_1162 rfl rfl ?_
  refine V_iload C dL_law_1163 rfl ?_
  refine V_iconst (v := 4) C dL_law_1165 (by decide) ?_
  refine V_iadd C dL_law_1166 ?_
  refine V_scr C hX hbl hbA dL_law_1167 (hi4 i) (by omega) hL rfl ?_
  refine V_callV (n := 4) C (q_ofCell (a := (xs (i + 1))) (b := (xs (i + 2))) (c := (xs (i + 3))) (d := (xs (i + 4))) rm2 hI hP) dL_law_1168 gL_law_X5_ofCell rfl m0 rfl (by decide +kernel) rfl rfl (by exact Nat.le_of_ble_eq_true rfl) ⟨by show ce + 4 ≤ 601024; omega, by show sl + 30 ≤ 7293034; omega⟩ ⟨Nat.le_of_ble_eq_true rfl, Nat.le_of_ble_eq_true rfl⟩ (fun v9 h9 hr9 => ?_)
  obtain ⟨⟨bv, rfl, hb⟩, ⟨I3, F3, rm3, hP3⟩, f3⟩ := hr9
  have m0 := rm3.m0
  have ho3 := lar_mfr ho2 f3
  refine V_istore6 C dL_law_1171 (by decide) ?_
  refine V_aload_n (i := 2) C dL_law_1173 rfl rfl ?_
  refine V_callV (n := 0) C (r_thrown rm3) dL_law_1174 gL_law_X5_thrown rfl m0 rfl (by decide +kernel) rfl rfl (by exact Nat.le_of_ble_eq_true rfl) ⟨by show ce + 4 ≤ 601024; omega, by show sl + 30 ≤ 7293034; omega⟩ ⟨Nat.le_of_ble_eq_true rfl, Nat.le_of_ble_eq_true rfl⟩ (fun v9 h9 hr9 => ?_)
  obtain ⟨rfl, z9⟩ := hr9
  have z9 := z9.symm
  subst z9
  refine V_iload C dL_law_1177 rfl ?_
  refine V_icmp_eq (tgt := 1184) C dL_law_1179 (by decide) (fun _ => ?_) (fun z9 => absurd rfl z9)
  refine V_iload C dL_law_1184 rfl ?_
  refine V_if_ne (tgt := 1201) C dL_law_1186 (by decide) (fun c1186 => ?_) (fun c1186 => ?_)
  · refine V_goto (tgt := 1544) C dL_law_1201 (by decide) ?_
    exact V_wid (k2 := ce + 80) (n2 := sl + 900) (by show ce + 4 ≤ ce + 80; omega) (by show sl + 30 ≤ sl + 900; omega) (V_wk (by simp [lle]) (k _ (sp_ofCell X (xs (i + 1)) (xs (i + 2)) (xs (i + 3)) (xs (i + 4))).2.2 _ ⟨Z2, ta2, f2, A, r2.mfr f3, t2, (by rw [same_ofCell]; exact hI.mono (by omega)), ⟨I3, F3, rm3, hP3⟩, z2, rfl, ho3⟩))
  · have hn := cod_0 c1186
    have hb := hb hn
    have hf2 := hf2 hn
    refine V_aload_n (i := 3) C dL_law_1189 rfl rfl ?_
    refine V_iconst (v := 0) C dL_law_1190 (by decide) ?_
    refine V_lald C dL_law_1191 ho3 (vp_in_iff.mpr ⟨by decide, by decide⟩) ?_
    refine V_iload C dL_law_1192 rfl ?_
    refine V_i2l C dL_law_1194 rfl ?_
    refine V_lcmp C dL_law_1195 ?_
    refine V_if_eq (tgt := 1201) C dL_law_1196 (by decide) (fun _ => ?_) (fun z9 => absurd (by rw [hb]; exact (congrArg (fun z => lg_cmp z _) hf2).trans (lg_self _)) z9)
    refine V_goto (tgt := 1544) C dL_law_1201 (by decide) ?_
    exact V_wid (k2 := ce + 80) (n2 := sl + 900) (by show ce + 4 ≤ ce + 80; omega) (by show sl + 30 ≤ sl + 900; omega) (V_wk (by simp [lle]) (k _ (sp_ofCell X (xs (i + 1)) (xs (i + 2)) (xs (i + 3)) (xs (i + 4))).2.2 _ ⟨Z2, ta2, f2, A, r2.mfr f3, t2, (by rw [same_ofCell]; exact hI.mono (by omega)), ⟨I3, F3, rm3, hP3⟩, z2, rfl, ho3⟩))
set_option maxHeartbeats 4000000 in
set_option maxRecDepth 100000 in
theorem lc_aimAnew (C : Cx p9 s9 m9 meth9 c9 cL_law 7 args9 wsL_law RL D cA bs) (hlt : l.stackTraces = false) (hz : hZ bs s9 s9.heap) (hsz : SZl s9) (hX : va_X b L xs s9 s9.heap) (hbl : b < s9.heap.size) (hbA : ¬ bs ≤ b) (hL : L ≤ 2560) (hi : i + 5 ≤ L) (hce : ce + 80 ≤ 601024) (hsl : sl + 900 ≤ 7293034) (hw : LW cA x mm o M X th h) (hM : M + 100 < 2 ^ 30) (k : ∀ h2 X2 th2, LW cA x mm o (M + 100) X2 th2 h2 → V p9 l e9 room_1 s9 m9 args9 below9 meth9 c9 D bs 7 h2 (ce + 80) (sl + 900) Q 1544 [some (.ref b), some (.ref x), some (.ref mm), some (.ref o), some (.int (nI i)), none, none] []) : V p9 l e9 room_1 s9 m9 args9 below9 meth9 c9 D bs 7 h ce sl Q 1204 [some (.ref b), some (.ref x), some (.ref mm), some (.ref o), some (.int (nI i)), none, none] [] := by
  obtain ⟨Z, ta, f, A, r, t, hI, ⟨I, F, rm, hP⟩, rfl, rfl, ho⟩ := hw
  have hd := hI.1.1
  have ht := t.HT
  refine V_aload_n (i := 1) C dL_law_1204 rfl rfl ?_
  refine V_aload_n (i := 0) C dL_law_1205 rfl rfl ?_
  refine V_iload C dL_law_1206 rfl ?_
  refine V_iconst (v := 1) C dL_law_1208 (by decide) ?_
  refine V_iadd C dL_law_1209 ?_
  refine V_scr C hX hbl hbA dL_law_1210 (hi1 i) (by omega) hL rfl ?_
  refine V_aload_n (i := 0) C dL_law_1211 rfl rfl ?_
  refine V_iload C dL_law_1212 rfl ?_
  refine V_iconst (v := 2) C dL_law_1214 (by decide) ?_
  refine V_iadd C dL_law_1215 ?_
  refine V_scr C hX hbl hbA dL_law_1216 (hi2 i) (by omega) hL rfl ?_
  refine V_aload_n (i := 0) C dL_law_1217 rfl rfl ?_
  refine V_iload C dL_law_1218 rfl ?_
  refine V_iconst (v := 3) C dL_law_1220 (by decide) ?_
  refine V_iadd C dL_law_1221 ?_
  refine V_scr C hX hbl hbA dL_law_1222 (hi3 i) (by omega) hL rfl ?_
  refine V_aload_n (i := 3) C dL_law_1223 rfl rfl ?_
  refine V_ccallS (n := 5) C (w_aimAnew (a := (xs (i + 1))) (b := (xs (i + 2))) (c := (xs (i + 3))) hlt r t hI ho) dL_law_1224 gL_law_L_aimAnew rfl (by decide +kernel) rfl rfl (by exact Nat.le_of_ble_eq_true rfl) ⟨by show ce + 4 ≤ 601024; omega, by show sl + 30 ≤ 7293034; omega⟩ ⟨Nat.le_of_ble_eq_true rfl, Nat.le_of_ble_eq_true rfl⟩ hz SZl.moves hsz (fun v9 h9 hr9 => ?_)
  obtain ⟨rfl, ⟨Z2, ta2, r2, t2, z2⟩, ⟨f2, ho2, hf2⟩, fr2⟩ := hr9
  have rm2 := rm.ofr ho fr2
  have m0 := rm2.m0
  refine V_istore5 C dL_law_1227 (by decide) ?_
  refine V_aload_n (i := 2) C dL_law_1229 rfl rfl ?_
  refine V_aload_n (i := 0) C dL_law_1230 rfl rfl ?_
  refine V_iload C dL_law_1231 rfl ?_
  refine V_iconst (v := 1) C dL_law_1233 (by decide) ?_
  refine V_iadd C dL_law_1234 ?_
  refine V_scr C hX hbl hbA dL_law_1235 (hi1 i) (by omega) hL rfl ?_
  refine V_aload_n (i := 0) C dL_law_1236 rfl rfl ?_
  refine V_iload C dL_law_1237 rfl ?_
  refine V_iconst (v := 2) C dL_law_1239 (by decide) ?_
  refine V_iadd C dL_law_1240 ?_
  refine V_scr C hX hbl hbA dL_law_1241 (hi2 i) (by omega) hL rfl ?_
  refine V_aload_n (i := 0) C dL_law_1242 rfl rfl ?_
  refine V_iload C dL_law_1243 rfl ?_
  refine V_iconst (v := 3) C dL_law_1245 (by decide) ?_
  refine V_iadd C dL_law_1246 ?_
  refine V_scr C hX hbl hbA dL_law_1247 (hi3 i) (by omega) hL rfl ?_
  refine V_callV (n := 3) C (q_aim (a := (xs (i + 1))) (b := (xs (i + 2))) (c := (xs (i + 3))) rm2 hI hP) dL_law_1248 gL_law_X5_aimAnew rfl m0 rfl (by decide +kernel) rfl rfl (by exact Nat.le_of_ble_eq_true rfl) ⟨by show ce + 4 ≤ 601024; omega, by show sl + 30 ≤ 7293034; omega⟩ ⟨Nat.le_of_ble_eq_true rfl, Nat.le_of_ble_eq_true rfl⟩ (fun v9 h9 hr9 => ?_)
  obtain ⟨⟨bv, rfl, hb⟩, ⟨I3, F3, rm3, hP3⟩, f3⟩ := hr9
  have m0 := rm3.m0
  have ho3 := lar_mfr ho2 f3
  refine V_istore6 C dL_law_1251 (by decide) ?_
  refine V_aload_n (i := 2) C dL_law_1253 rfl rfl ?_
  refine V_callV (n := 0) C (r_thrown rm3) dL_law_1254 gL_law_X5_thrown rfl m0 rfl (by decide +kernel) rfl rfl (by exact Nat.le_of_ble_eq_true rfl) ⟨by show ce + 4 ≤ 601024; omega, by show sl + 30 ≤ 7293034; omega⟩ ⟨Nat.le_of_ble_eq_true rfl, Nat.le_of_ble_eq_true rfl⟩ (fun v9 h9 hr9 => ?_)
  obtain ⟨rfl, z9⟩ := hr9
  have z9 := z9.symm
  subst z9
  refine V_iload C dL_law_1257 rfl ?_
  refine V_icmp_eq (tgt := 1264) C dL_law_1259 (by decide) (fun _ => ?_) (fun z9 => absurd rfl z9)
  refine V_iload C dL_law_1264 rfl ?_
  refine V_if_ne (tgt := 1281) C dL_law_1266 (by decide) (fun c1266 => ?_) (fun c1266 => ?_)
  · refine V_goto (tgt := 1544) C dL_law_1281 (by decide) ?_
    exact V_wid (k2 := ce + 80) (n2 := sl + 900) (by show ce + 4 ≤ ce + 80; omega) (by show sl + 30 ≤ sl + 900; omega) (V_wk (by simp [lle]) (k _ (sp_aim X (xs (i + 1)) (xs (i + 2)) (xs (i + 3))).2.2 _ ⟨Z2, ta2, f2, A, r2.mfr f3, t2, (i_aim hI).mono (by omega), ⟨I3, F3, rm3, hP3⟩, z2, rfl, ho3⟩))
  · have hn := cod_0 c1266
    have hb := hb hn
    have hf2 := hf2 hn
    refine V_aload_n (i := 3) C dL_law_1269 rfl rfl ?_
    refine V_iconst (v := 0) C dL_law_1270 (by decide) ?_
    refine V_lald C dL_law_1271 ho3 (vp_in_iff.mpr ⟨by decide, by decide⟩) ?_
    refine V_iload C dL_law_1272 rfl ?_
    refine V_i2l C dL_law_1274 rfl ?_
    refine V_lcmp C dL_law_1275 ?_
    refine V_if_eq (tgt := 1281) C dL_law_1276 (by decide) (fun _ => ?_) (fun z9 => absurd (by rw [hb]; exact (congrArg (fun z => lg_cmp z _) hf2).trans (lg_self _)) z9)
    refine V_goto (tgt := 1544) C dL_law_1281 (by decide) ?_
    exact V_wid (k2 := ce + 80) (n2 := sl + 900) (by show ce + 4 ≤ ce + 80; omega) (by show sl + 30 ≤ sl + 900; omega) (V_wk (by simp [lle]) (k _ (sp_aim X (xs (i + 1)) (xs (i + 2)) (xs (i + 3))).2.2 _ ⟨Z2, ta2, f2, A, r2.mfr f3, t2, (i_aim hI).mono (by omega), ⟨I3, F3, rm3, hP3⟩, z2, rfl, ho3⟩))
set_option maxHeartbeats 4000000 in
set_option maxRecDepth 100000 in
theorem lc_edge (C : Cx p9 s9 m9 meth9 c9 cL_law 7 args9 wsL_law RL D cA bs) (hlt : l.stackTraces = false) (hz : hZ bs s9 s9.heap) (hsz : SZl s9) (hX : va_X b L xs s9 s9.heap) (hbl : b < s9.heap.size) (hbA : ¬ bs ≤ b) (hL : L ≤ 2560) (hi : i + 5 ≤ L) (hce : ce + 80 ≤ 601024) (hsl : sl + 900 ≤ 7293034) (hw : LW cA x mm o M X th h) (hM : M + 100 < 2 ^ 30) (k : ∀ h2 X2 th2, LW cA x mm o (M + 100) X2 th2 h2 → V p9 l e9 room_1 s9 m9 args9 below9 meth9 c9 D bs 7 h2 (ce + 80) (sl + 900) Q 1544 [some (.ref b), some (.ref x), some (.ref mm), some (.ref o), some (.int (nI i)), none, none] []) : V p9 l e9 room_1 s9 m9 args9 below9 meth9 c9 D bs 7 h ce sl Q 1284 [some (.ref b), some (.ref x), some (.ref mm), some (.ref o), some (.int (nI i)), none, none] [] := by
  obtain ⟨Z, ta, f, A, r, t, hI, ⟨I, F, rm, hP⟩, rfl, rfl, ho⟩ := hw
  have hd := hI.1.1
  have ht := t.HT
  refine V_aload_n (i := 1) C dL_law_1284 rfl rfl ?_
  refine V_aload_n (i := 0) C dL_law_1285 rfl rfl ?_
  refine V_iload C dL_law_1286 rfl ?_
  refine V_iconst (v := 1) C dL_law_1288 (by decide) ?_
  refine V_iadd C dL_law_1289 ?_
  refine V_scr C hX hbl hbA dL_law_1290 (hi1 i) (by omega) hL rfl ?_
  refine V_aload_n (i := 3) C dL_law_1291 rfl rfl ?_
  refine V_ccallS (n := 3) C (w_edge (x := (xs (i + 1))) hlt r t hI ho) dL_law_1292 gL_law_L_edge rfl (by decide +kernel) rfl rfl (by exact Nat.le_of_ble_eq_true rfl) ⟨by show ce + 4 ≤ 601024; omega, by show sl + 30 ≤ 7293034; omega⟩ ⟨Nat.le_of_ble_eq_true rfl, Nat.le_of_ble_eq_true rfl⟩ hz SZl.moves hsz (fun v9 h9 hr9 => ?_)
  obtain ⟨rfl, ⟨Z2, ta2, r2, t2, z2⟩, ⟨f2, ho2, hf2⟩, fr2⟩ := hr9
  have rm2 := rm.ofr ho fr2
  have m0 := rm2.m0
  refine V_istore5 C dL_law_1295 (by decide) ?_
  refine V_aload_n (i := 2) C dL_law_1297 rfl rfl ?_
  refine V_aload_n (i := 0) C dL_law_1298 rfl rfl ?_
  refine V_iload C dL_law_1299 rfl ?_
  refine V_iconst (v := 1) C dL_law_1301 (by decide) ?_
  refine V_iadd C dL_law_1302 ?_
  refine V_scr C hX hbl hbA dL_law_1303 (hi1 i) (by omega) hL rfl ?_
  refine V_callV (n := 1) C (q_edge (x := (xs (i + 1))) rm2 hI hP) dL_law_1304 gL_law_X5_edge rfl m0 rfl (by decide +kernel) rfl rfl (by exact Nat.le_of_ble_eq_true rfl) ⟨by show ce + 4 ≤ 601024; omega, by show sl + 30 ≤ 7293034; omega⟩ ⟨Nat.le_of_ble_eq_true rfl, Nat.le_of_ble_eq_true rfl⟩ (fun v9 h9 hr9 => ?_)
  obtain ⟨⟨bv, rfl, hb⟩, ⟨I3, F3, rm3, hP3⟩, f3⟩ := hr9
  have m0 := rm3.m0
  have ho3 := lar_mfr ho2 f3
  refine V_istore6 C dL_law_1307 (by decide) ?_
  refine V_aload_n (i := 2) C dL_law_1309 rfl rfl ?_
  refine V_callV (n := 0) C (r_thrown rm3) dL_law_1310 gL_law_X5_thrown rfl m0 rfl (by decide +kernel) rfl rfl (by exact Nat.le_of_ble_eq_true rfl) ⟨by show ce + 4 ≤ 601024; omega, by show sl + 30 ≤ 7293034; omega⟩ ⟨Nat.le_of_ble_eq_true rfl, Nat.le_of_ble_eq_true rfl⟩ (fun v9 h9 hr9 => ?_)
  obtain ⟨rfl, z9⟩ := hr9
  have z9 := z9.symm
  subst z9
  refine V_iload C dL_law_1313 rfl ?_
  refine V_icmp_eq (tgt := 1320) C dL_law_1315 (by decide) (fun _ => ?_) (fun z9 => absurd rfl z9)
  refine V_iload C dL_law_1320 rfl ?_
  refine V_if_ne (tgt := 1337) C dL_law_1322 (by decide) (fun c1322 => ?_) (fun c1322 => ?_)
  · refine V_goto (tgt := 1544) C dL_law_1337 (by decide) ?_
    exact V_wid (k2 := ce + 80) (n2 := sl + 900) (by show ce + 4 ≤ ce + 80; omega) (by show sl + 30 ≤ sl + 900; omega) (V_wk (by simp [lle]) (k _ (sp_edge X (xs (i + 1))).2.2 _ ⟨Z2, ta2, f2, A, r2.mfr f3, t2, (by rw [same_edge]; exact hI.mono (by omega)), ⟨I3, F3, rm3, hP3⟩, z2, rfl, ho3⟩))
  · have hn := cod_0 c1322
    have hb := hb hn
    have hf2 := hf2 hn
    refine V_aload_n (i := 3) C dL_law_1325 rfl rfl ?_
    refine V_iconst (v := 0) C dL_law_1326 (by decide) ?_
    refine V_lald C dL_law_1327 ho3 (vp_in_iff.mpr ⟨by decide, by decide⟩) ?_
    refine V_iload C dL_law_1328 rfl ?_
    refine V_i2l C dL_law_1330 rfl ?_
    refine V_lcmp C dL_law_1331 ?_
    refine V_if_eq (tgt := 1337) C dL_law_1332 (by decide) (fun _ => ?_) (fun z9 => absurd (by rw [hb]; exact (congrArg (fun z => lg_cmp z _) hf2).trans (lg_self _)) z9)
    refine V_goto (tgt := 1544) C dL_law_1337 (by decide) ?_
    exact V_wid (k2 := ce + 80) (n2 := sl + 900) (by show ce + 4 ≤ ce + 80; omega) (by show sl + 30 ≤ sl + 900; omega) (V_wk (by simp [lle]) (k _ (sp_edge X (xs (i + 1))).2.2 _ ⟨Z2, ta2, f2, A, r2.mfr f3, t2, (by rw [same_edge]; exact hI.mono (by omega)), ⟨I3, F3, rm3, hP3⟩, z2, rfl, ho3⟩))
set_option maxHeartbeats 4000000 in
set_option maxRecDepth 100000 in
theorem lc_ofLot (C : Cx p9 s9 m9 meth9 c9 cL_law 7 args9 wsL_law RL D cA bs) (hlt : l.stackTraces = false) (hz : hZ bs s9 s9.heap) (hsz : SZl s9) (hX : va_X b L xs s9 s9.heap) (hbl : b < s9.heap.size) (hbA : ¬ bs ≤ b) (hL : L ≤ 2560) (hi : i + 5 ≤ L) (hce : ce + 80 ≤ 601024) (hsl : sl + 900 ≤ 7293034) (hw : LW cA x mm o M X th h) (hM : M + 100 < 2 ^ 30) (k : ∀ h2 X2 th2, LW cA x mm o (M + 100) X2 th2 h2 → V p9 l e9 room_1 s9 m9 args9 below9 meth9 c9 D bs 7 h2 (ce + 80) (sl + 900) Q 1544 [some (.ref b), some (.ref x), some (.ref mm), some (.ref o), some (.int (nI i)), none, none] []) : V p9 l e9 room_1 s9 m9 args9 below9 meth9 c9 D bs 7 h ce sl Q 1340 [some (.ref b), some (.ref x), some (.ref mm), some (.ref o), some (.int (nI i)), none, none] [] := by
  obtain ⟨Z, ta, f, A, r, t, hI, ⟨I, F, rm, hP⟩, rfl, rfl, ho⟩ := hw
  have hd := hI.1.1
  have ht := t.HT
  refine V_aload_n (i := 1) C dL_law_1340 rfl rfl ?_
  refine V_aload_n (i := 0) C dL_law_1341 rfl rfl ?_
  refine V_iload C dL_law_1342 rfl ?_
  refine V_iconst (v := 1) C dL_law_1344 (by decide) ?_
  refine V_iadd C dL_law_1345 ?_
  refine V_scr C hX hbl hbA dL_law_1346 (hi1 i) (by omega) hL rfl ?_
  refine V_aload_n (i := 0) C dL_law_1347 rfl rfl ?_
  refine V_iload C dL_law_1348 rfl ?_
  refine V_iconst (v := 2) C dL_law_1350 (by decide) ?_
  refine V_iadd C dL_law_1351 ?_
  refine V_scr C hX hbl hbA dL_law_1352 (hi2 i) (by omega) hL rfl ?_
  refine V_aload_n (i := 3) C dL_law_1353 rfl rfl ?_
  refine V_ccallS (n := 4) C (w_ofLot (a := (xs (i + 1))) (d := (xs (i + 2))) hlt r t hI ho) dL_law_1354 gL_law_L_ofLot rfl (by decide +kernel) rfl rfl (by exact Nat.le_of_ble_eq_true rfl) ⟨by show ce + 4 ≤ 601024; omega, by show sl + 30 ≤ 7293034; omega⟩ ⟨Nat.le_of_ble_eq_true rfl, Nat.le_of_ble_eq_true rfl⟩ hz SZl.moves hsz (fun v9 h9 hr9 => ?_)
  obtain ⟨rfl, ⟨Z2, ta2, r2, t2, z2⟩, ⟨f2, ho2, hf2⟩, fr2⟩ := hr9
  have rm2 := rm.ofr ho fr2
  have m0 := rm2.m0
  refine V_istore5 C dL_law_1357 (by decide) ?_
  refine V_aload_n (i := 2) C dL_law_1359 rfl rfl ?_
  refine V_aload_n (i := 0) C dL_law_1360 rfl rfl ?_
  refine V_iload C dL_law_1361 rfl ?_
  refine V_iconst (v := 1) C dL_law_1363 (by decide) ?_
  refine V_iadd C dL_law_1364 ?_
  refine V_scr C hX hbl hbA dL_law_1365 (hi1 i) (by omega) hL rfl ?_
  refine V_aload_n (i := 0) C dL_law_1366 rfl rfl ?_
  refine V_iload C dL_law_1367 rfl ?_
  refine V_iconst (v := 2) C dL_law_1369 (by decide) ?_
  refine V_iadd C dL_law_1370 ?_
  refine V_scr C hX hbl hbA dL_law_1371 (hi2 i) (by omega) hL rfl ?_
  refine V_callV (n := 2) C (q_ofLot (x := (xs (i + 1))) (d := (xs (i + 2))) rm2 hI hP) dL_law_1372 gL_law_X5_ofLot rfl m0 rfl (by decide +kernel) rfl rfl (by exact Nat.le_of_ble_eq_true rfl) ⟨by show ce + 4 ≤ 601024; omega, by show sl + 30 ≤ 7293034; omega⟩ ⟨Nat.le_of_ble_eq_true rfl, Nat.le_of_ble_eq_true rfl⟩ (fun v9 h9 hr9 => ?_)
  obtain ⟨⟨bv, rfl, hb⟩, ⟨I3, F3, rm3, hP3⟩, f3⟩ := hr9
  have m0 := rm3.m0
  have ho3 := lar_mfr ho2 f3
  refine V_istore6 C dL_law_1375 (by decide) ?_
  refine V_aload_n (i := 2) C dL_law_1377 rfl rfl ?_
  refine V_callV (n := 0) C (r_thrown rm3) dL_law_1378 gL_law_X5_thrown rfl m0 rfl (by decide +kernel) rfl rfl (by exact Nat.le_of_ble_eq_true rfl) ⟨by show ce + 4 ≤ 601024; omega, by show sl + 30 ≤ 7293034; omega⟩ ⟨Nat.le_of_ble_eq_true rfl, Nat.le_of_ble_eq_true rfl⟩ (fun v9 h9 hr9 => ?_)
  obtain ⟨rfl, z9⟩ := hr9
  have z9 := z9.symm
  subst z9
  refine V_iload C dL_law_1381 rfl ?_
  refine V_icmp_eq (tgt := 1388) C dL_law_1383 (by decide) (fun _ => ?_) (fun z9 => absurd rfl z9)
  refine V_iload C dL_law_1388 rfl ?_
  refine V_if_ne (tgt := 1405) C dL_law_1390 (by decide) (fun c1390 => ?_) (fun c1390 => ?_)
  · refine V_goto (tgt := 1544) C dL_law_1405 (by decide) ?_
    exact V_wid (k2 := ce + 80) (n2 := sl + 900) (by show ce + 4 ≤ ce + 80; omega) (by show sl + 30 ≤ sl + 900; omega) (V_wk (by simp [lle]) (k _ (sp_ofLot X (xs (i + 1)) (xs (i + 2))).2.2 _ ⟨Z2, ta2, f2, A, r2.mfr f3, t2, (by rw [same_ofLot]; exact hI.mono (by omega)), ⟨I3, F3, rm3, hP3⟩, z2, rfl, ho3⟩))
  · have hn := cod_0 c1390
    have hb := hb hn
    have hf2 := hf2 hn
    refine V_aload_n (i := 3) C dL_law_1393 rfl rfl ?_
    refine V_iconst (v := 0) C dL_law_1394 (by decide) ?_
    refine V_lald C dL_law_1395 ho3 (vp_in_iff.mpr ⟨by decide, by decide⟩) ?_
    refine V_iload C dL_law_1396 rfl ?_
    refine V_i2l C dL_law_1398 rfl ?_
    refine V_lcmp C dL_law_1399 ?_
    refine V_if_eq (tgt := 1405) C dL_law_1400 (by decide) (fun _ => ?_) (fun z9 => absurd (by rw [hb]; exact (congrArg (fun z => lg_cmp z _) hf2).trans (lg_self _)) z9)
    refine V_goto (tgt := 1544) C dL_law_1405 (by decide) ?_
    exact V_wid (k2 := ce + 80) (n2 := sl + 900) (by show ce + 4 ≤ ce + 80; omega) (by show sl + 30 ≤ sl + 900; omega) (V_wk (by simp [lle]) (k _ (sp_ofLot X (xs (i + 1)) (xs (i + 2))).2.2 _ ⟨Z2, ta2, f2, A, r2.mfr f3, t2, (by rw [same_ofLot]; exact hI.mono (by omega)), ⟨I3, F3, rm3, hP3⟩, z2, rfl, ho3⟩))
set_option maxHeartbeats 4000000 in
set_option maxRecDepth 100000 in
theorem lc_ofPicture (C : Cx p9 s9 m9 meth9 c9 cL_law 7 args9 wsL_law RL D cA bs) (hlt : l.stackTraces = false) (hz : hZ bs s9 s9.heap) (hsz : SZl s9) (hX : va_X b L xs s9 s9.heap) (hbl : b < s9.heap.size) (hbA : ¬ bs ≤ b) (hL : L ≤ 2560) (hi : i + 5 ≤ L) (hce : ce + 80 ≤ 601024) (hsl : sl + 900 ≤ 7293034) (hw : LW cA x mm o M X th h) (hM : M + 100 < 2 ^ 30) (k : ∀ h2 X2 th2, LW cA x mm o (M + 100) X2 th2 h2 → V p9 l e9 room_1 s9 m9 args9 below9 meth9 c9 D bs 7 h2 (ce + 80) (sl + 900) Q 1544 [some (.ref b), some (.ref x), some (.ref mm), some (.ref o), some (.int (nI i)), none, none] []) : V p9 l e9 room_1 s9 m9 args9 below9 meth9 c9 D bs 7 h ce sl Q 1408 [some (.ref b), some (.ref x), some (.ref mm), some (.ref o), some (.int (nI i)), none, none] [] := by
  obtain ⟨Z, ta, f, A, r, t, hI, ⟨I, F, rm, hP⟩, rfl, rfl, ho⟩ := hw
  have hd := hI.1.1
  have ht := t.HT
  refine V_aload_n (i := 1) C dL_law_1408 rfl rfl ?_
  refine V_aload_n (i := 0) C dL_law_1409 rfl rfl ?_
  refine V_iload C dL_law_1410 rfl ?_
  refine V_iconst (v := 1) C dL_law_1412 (by decide) ?_
  refine V_iadd C dL_law_1413 ?_
  refine V_scr C hX hbl hbA dL_law_1414 (hi1 i) (by omega) hL rfl ?_
  refine V_aload_n (i := 0) C dL_law_1415 rfl rfl ?_
  refine V_iload C dL_law_1416 rfl ?_
  refine V_iconst (v := 2) C dL_law_1418 (by decide) ?_
  refine V_iadd C dL_law_1419 ?_
  refine V_scr C hX hbl hbA dL_law_1420 (hi2 i) (by omega) hL rfl ?_
  refine V_aload_n (i := 3) C dL_law_1421 rfl rfl ?_
  refine V_ccallS (n := 4) C (w_ofPicture (x := (xs (i + 1))) (d := (xs (i + 2))) hlt r t hI ho) dL_law_1422 gL_law_L_ofPicture rfl (by decide +kernel) rfl rfl (by exact Nat.le_of_ble_eq_true rfl) ⟨by show ce + 4 ≤ 601024; omega, by show sl + 30 ≤ 7293034; omega⟩ ⟨Nat.le_of_ble_eq_true rfl, Nat.le_of_ble_eq_true rfl⟩ hz SZl.moves hsz (fun v9 h9 hr9 => ?_)
  obtain ⟨rfl, ⟨Z2, ta2, r2, t2, z2⟩, ⟨f2, ho2, hf2⟩, fr2⟩ := hr9
  have rm2 := rm.ofr ho fr2
  have m0 := rm2.m0
  refine V_istore5 C dL_law_1425 (by decide) ?_
  refine V_aload_n (i := 2) C dL_law_1427 rfl rfl ?_
  refine V_aload_n (i := 0) C dL_law_1428 rfl rfl ?_
  refine V_iload C dL_law_1429 rfl ?_
  refine V_iconst (v := 1) C dL_law_1431 (by decide) ?_
  refine V_iadd C dL_law_1432 ?_
  refine V_scr C hX hbl hbA dL_law_1433 (hi1 i) (by omega) hL rfl ?_
  refine V_aload_n (i := 0) C dL_law_1434 rfl rfl ?_
  refine V_iload C dL_law_1435 rfl ?_
  refine V_iconst (v := 2) C dL_law_1437 (by decide) ?_
  refine V_iadd C dL_law_1438 ?_
  refine V_scr C hX hbl hbA dL_law_1439 (hi2 i) (by omega) hL rfl ?_
  refine V_callV (n := 2) C (q_ofPic (x := (xs (i + 1))) (d := (xs (i + 2))) rm2 hd hP) dL_law_1440 gL_law_X5_ofPicture rfl m0 rfl (by decide +kernel) rfl rfl (by exact Nat.le_of_ble_eq_true rfl) ⟨by show ce + 4 ≤ 601024; omega, by show sl + 30 ≤ 7293034; omega⟩ ⟨Nat.le_of_ble_eq_true rfl, Nat.le_of_ble_eq_true rfl⟩ (fun v9 h9 hr9 => ?_)
  obtain ⟨⟨bv, rfl, hb⟩, ⟨I3, F3, rm3, hP3⟩, f3⟩ := hr9
  have m0 := rm3.m0
  have ho3 := lar_mfr ho2 f3
  refine V_istore6 C dL_law_1443 (by decide) ?_
  refine V_aload_n (i := 2) C dL_law_1445 rfl rfl ?_
  refine V_callV (n := 0) C (r_thrown rm3) dL_law_1446 gL_law_X5_thrown rfl m0 rfl (by decide +kernel) rfl rfl (by exact Nat.le_of_ble_eq_true rfl) ⟨by show ce + 4 ≤ 601024; omega, by show sl + 30 ≤ 7293034; omega⟩ ⟨Nat.le_of_ble_eq_true rfl, Nat.le_of_ble_eq_true rfl⟩ (fun v9 h9 hr9 => ?_)
  obtain ⟨rfl, z9⟩ := hr9
  have z9 := z9.symm
  subst z9
  refine V_iload C dL_law_1449 rfl ?_
  refine V_icmp_eq (tgt := 1456) C dL_law_1451 (by decide) (fun _ => ?_) (fun z9 => absurd rfl z9)
  refine V_iload C dL_law_1456 rfl ?_
  refine V_if_ne (tgt := 1473) C dL_law_1458 (by decide) (fun c1458 => ?_) (fun c1458 => ?_)
  · refine V_goto (tgt := 1544) C dL_law_1473 (by decide) ?_
    exact V_wid (k2 := ce + 80) (n2 := sl + 900) (by show ce + 4 ≤ ce + 80; omega) (by show sl + 30 ≤ sl + 900; omega) (V_wk (by simp [lle]) (k _ (sp_ofPic X (xs (i + 1)) (xs (i + 2))).2.2 _ ⟨Z2, ta2, f2, A, r2.mfr f3, t2, (by rw [same_ofPicture]; exact hI.mono (by omega)), ⟨I3, F3, rm3, hP3⟩, z2, rfl, ho3⟩))
  · have hn := cod_0 c1458
    have hb := hb hn
    have hf2 := hf2 hn
    refine V_aload_n (i := 3) C dL_law_1461 rfl rfl ?_
    refine V_iconst (v := 0) C dL_law_1462 (by decide) ?_
    refine V_lald C dL_law_1463 ho3 (vp_in_iff.mpr ⟨by decide, by decide⟩) ?_
    refine V_iload C dL_law_1464 rfl ?_
    refine V_i2l C dL_law_1466 rfl ?_
    refine V_lcmp C dL_law_1467 ?_
    refine V_if_eq (tgt := 1473) C dL_law_1468 (by decide) (fun _ => ?_) (fun z9 => absurd (by rw [hb]; exact (congrArg (fun z => lg_cmp z _) hf2).trans (lg_self _)) z9)
    refine V_goto (tgt := 1544) C dL_law_1473 (by decide) ?_
    exact V_wid (k2 := ce + 80) (n2 := sl + 900) (by show ce + 4 ≤ ce + 80; omega) (by show sl + 30 ≤ sl + 900; omega) (V_wk (by simp [lle]) (k _ (sp_ofPic X (xs (i + 1)) (xs (i + 2))).2.2 _ ⟨Z2, ta2, f2, A, r2.mfr f3, t2, (by rw [same_ofPicture]; exact hI.mono (by omega)), ⟨I3, F3, rm3, hP3⟩, z2, rfl, ho3⟩))
set_option maxHeartbeats 4000000 in
set_option maxRecDepth 100000 in
theorem lc_ofCrew (C : Cx p9 s9 m9 meth9 c9 cL_law 7 args9 wsL_law RL D cA bs) (hlt : l.stackTraces = false) (hz : hZ bs s9 s9.heap) (hsz : SZl s9) (hX : va_X b L xs s9 s9.heap) (hbl : b < s9.heap.size) (hbA : ¬ bs ≤ b) (hL : L ≤ 2560) (hi : i + 5 ≤ L) (hce : ce + 80 ≤ 601024) (hsl : sl + 900 ≤ 7293034) (hw : LW cA x mm o M X th h) (hM : M + 100 < 2 ^ 30) (k : ∀ h2 X2 th2, LW cA x mm o (M + 100) X2 th2 h2 → V p9 l e9 room_1 s9 m9 args9 below9 meth9 c9 D bs 7 h2 (ce + 80) (sl + 900) Q 1544 [some (.ref b), some (.ref x), some (.ref mm), some (.ref o), some (.int (nI i)), none, none] []) : V p9 l e9 room_1 s9 m9 args9 below9 meth9 c9 D bs 7 h ce sl Q 1476 [some (.ref b), some (.ref x), some (.ref mm), some (.ref o), some (.int (nI i)), none, none] [] := by
  obtain ⟨Z, ta, f, A, r, t, hI, ⟨I, F, rm, hP⟩, rfl, rfl, ho⟩ := hw
  have hd := hI.1.1
  have ht := t.HT
  refine V_aload_n (i := 1) C dL_law_1476 rfl rfl ?_
  refine V_aload_n (i := 0) C dL_law_1477 rfl rfl ?_
  refine V_iload C dL_law_1478 rfl ?_
  refine V_iconst (v := 1) C dL_law_1480 (by decide) ?_
  refine V_iadd C dL_law_1481 ?_
  refine V_scr C hX hbl hbA dL_law_1482 (hi1 i) (by omega) hL rfl ?_
  refine V_aload_n (i := 0) C dL_law_1483 rfl rfl ?_
  refine V_iload C dL_law_1484 rfl ?_
  refine V_iconst (v := 2) C dL_law_1486 (by decide) ?_
  refine V_iadd C dL_law_1487 ?_
  refine V_scr C hX hbl hbA dL_law_1488 (hi2 i) (by omega) hL rfl ?_
  refine V_aload_n (i := 3) C dL_law_1489 rfl rfl ?_
  refine V_ccallS (n := 4) C (w_ofCrew (a := (xs (i + 1))) (d := (xs (i + 2))) hlt r t hI ho) dL_law_1490 gL_law_L_ofCrew rfl (by decide +kernel) rfl rfl (by exact Nat.le_of_ble_eq_true rfl) ⟨by show ce + 4 ≤ 601024; omega, by show sl + 30 ≤ 7293034; omega⟩ ⟨Nat.le_of_ble_eq_true rfl, Nat.le_of_ble_eq_true rfl⟩ hz SZl.moves hsz (fun v9 h9 hr9 => ?_)
  obtain ⟨rfl, ⟨Z2, ta2, r2, t2, z2⟩, ⟨f2, ho2, hf2⟩, fr2⟩ := hr9
  have rm2 := rm.ofr ho fr2
  have m0 := rm2.m0
  refine V_istore5 C dL_law_1493 (by decide) ?_
  refine V_aload_n (i := 2) C dL_law_1495 rfl rfl ?_
  refine V_aload_n (i := 0) C dL_law_1496 rfl rfl ?_
  refine V_iload C dL_law_1497 rfl ?_
  refine V_iconst (v := 1) C dL_law_1499 (by decide) ?_
  refine V_iadd C dL_law_1500 ?_
  refine V_scr C hX hbl hbA dL_law_1501 (hi1 i) (by omega) hL rfl ?_
  refine V_aload_n (i := 0) C dL_law_1502 rfl rfl ?_
  refine V_iload C dL_law_1503 rfl ?_
  refine V_iconst (v := 2) C dL_law_1505 (by decide) ?_
  refine V_iadd C dL_law_1506 ?_
  refine V_scr C hX hbl hbA dL_law_1507 (hi2 i) (by omega) hL rfl ?_
  refine V_callV (n := 2) C (q_ofCrew (x := (xs (i + 1))) (d := (xs (i + 2))) rm2 hd hP ht) dL_law_1508 gL_law_X5_ofCrew rfl m0 rfl (by decide +kernel) rfl rfl (by exact Nat.le_of_ble_eq_true rfl) ⟨by show ce + 4 ≤ 601024; omega, by show sl + 30 ≤ 7293034; omega⟩ ⟨Nat.le_of_ble_eq_true rfl, Nat.le_of_ble_eq_true rfl⟩ (fun v9 h9 hr9 => ?_)
  obtain ⟨⟨bv, rfl, hb⟩, ⟨I3, F3, rm3, hP3⟩, f3⟩ := hr9
  have m0 := rm3.m0
  have ho3 := lar_mfr ho2 f3
  refine V_istore6 C dL_law_1511 (by decide) ?_
  refine V_aload_n (i := 2) C dL_law_1513 rfl rfl ?_
  refine V_callV (n := 0) C (r_thrown rm3) dL_law_1514 gL_law_X5_thrown rfl m0 rfl (by decide +kernel) rfl rfl (by exact Nat.le_of_ble_eq_true rfl) ⟨by show ce + 4 ≤ 601024; omega, by show sl + 30 ≤ 7293034; omega⟩ ⟨Nat.le_of_ble_eq_true rfl, Nat.le_of_ble_eq_true rfl⟩ (fun v9 h9 hr9 => ?_)
  obtain ⟨rfl, z9⟩ := hr9
  have z9 := z9.symm
  subst z9
  refine V_iload C dL_law_1517 rfl ?_
  refine V_icmp_eq (tgt := 1524) C dL_law_1519 (by decide) (fun _ => ?_) (fun z9 => absurd rfl z9)
  refine V_iload C dL_law_1524 rfl ?_
  refine V_if_ne (tgt := 1541) C dL_law_1526 (by decide) (fun c1526 => ?_) (fun c1526 => ?_)
  · refine V_goto (tgt := 1544) C dL_law_1541 (by decide) ?_
    exact V_wid (k2 := ce + 80) (n2 := sl + 900) (by show ce + 4 ≤ ce + 80; omega) (by show sl + 30 ≤ sl + 900; omega) (V_wk (by simp [lle]) (k _ (sp_ofCrew X (xs (i + 1)) (xs (i + 2))).2.2 _ ⟨Z2, ta2, f2, A, r2.mfr f3, t2, (by rw [same_ofCrew]; exact hI.mono (by omega)), ⟨I3, F3, rm3, hP3⟩, z2, rfl, ho3⟩))
  · have hn := cod_0 c1526
    have hb := hb hn
    have hf2 := hf2 hn
    refine V_aload_n (i := 3) C dL_law_1529 rfl rfl ?_
    refine V_iconst (v := 0) C dL_law_1530 (by decide) ?_
    refine V_lald C dL_law_1531 ho3 (vp_in_iff.mpr ⟨by decide, by decide⟩) ?_
    refine V_iload C dL_law_1532 rfl ?_
    refine V_i2l C dL_law_1534 rfl ?_
    refine V_lcmp C dL_law_1535 ?_
    refine V_if_eq (tgt := 1541) C dL_law_1536 (by decide) (fun _ => ?_) (fun z9 => absurd (by rw [hb]; exact (congrArg (fun z => lg_cmp z _) hf2).trans (lg_self _)) z9)
    refine V_goto (tgt := 1544) C dL_law_1541 (by decide) ?_
    exact V_wid (k2 := ce + 80) (n2 := sl + 900) (by show ce + 4 ≤ ce + 80; omega) (by show sl + 30 ≤ sl + 900; omega) (V_wk (by simp [lle]) (k _ (sp_ofCrew X (xs (i + 1)) (xs (i + 2))).2.2 _ ⟨Z2, ta2, f2, A, r2.mfr f3, t2, (by rw [same_ofCrew]; exact hI.mono (by omega)), ⟨I3, F3, rm3, hP3⟩, z2, rfl, ho3⟩))
end CASES
