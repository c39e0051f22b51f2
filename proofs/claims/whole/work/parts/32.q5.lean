/-! the reference's calls: pass, edge -/
theorem i32_1 (a b c : Int32) : a - (b - 1) - (c + 1) = a - b - c := by grind
section RPUB5
variable {l : Launch} {D : va_G} {cA : Nat → ClassId} {bs : Nat} {A : Nat → Nat} {I : MI} {F : MF} {h : hE} {X : XS} {th : Int32} {M : Nat}
def rI (X : XS) (c : Nat) (e : Int32) : XS := setR X c (rrt (xcr X c), rdy (xcr X c), rpc (xcr X c), rmt (xcr X c), rtr (xcr X c), e)
theorem m1_ne (p : Nat) (h : p < 2 ^ 31) : ¬ nI p = -1 := by
  intro z
  have := congrArg Int32.toInt z
  rw [nI_toInt h] at this
  have e : ((-1 : Int32)).toInt = -1 := by decide
  omega
set_option maxHeartbeats 4000000 in
set_option maxRecDepth 100000 in
theorem r_lays (r : MR cA A I F (mnn X th) h) (hI : CI M X) (hM : M < 2 ^ 30) (hP : PR X I F) (ht : ∀ c, c < 3 → ∀ b, b ∈ rtr (xcr X c) → b < xnl X) {c : Nat} (hc : c < 3) : Mt l D cA bs yX5_lays wsX5_lays (rmk 3 0 0) [.ref (A 0), .int (nI c)] h (fun v h2 => (lyO X c (xnw X) = none ∧ v = some (.int 0) ∧ h2 = h) ∨ ∃ q, lyO X c (xnw X) = some q ∧ v = some (.int 1) ∧ MW cA A (rI (lyX X q.1 q.2.1 q.2.2 (xnw X) (xnw X + rdy (xcr X c))) c (rld (xcr X c) + 1)) th h2 ∧ mfr h h2) := by
  have m0 := r.m0
  have m20 := r.m20
  have hd := hI.1.1
  have hnp := hd.2.1
  have hnl := hd.1
  obtain ⟨c1, c2, c3, c4, c5, c6, c7⟩ := hP.2.2.2.2.2.2 c hc
  rcases ho : rpc (xcr X c) with _ | p
  · have hly : lyO X c (xnw X) = none := by unfold lyO; rw [ho]
    rw [ho] at c1
    have c1 : I 20 c = -1 := c1
    refine Mt_of (cc := cX5_lays) (maxL := 6) (ret := (some .boolean)) (own := RX5) [some (.ref (A 0)), some (.int (nI c)), none, none, none, none] rfl (by decide +kernel) rfl rfl (by exact Nat.le_of_ble_eq_true rfl) rfl ?_
    intro p9 e9 s9 m9 args9 below9 meth9 c9 C hr hnm
    refine V_aload_n (i := 0) C dX5_lays_0 rfl rfl ?_
    refine V_get (ci := 5) (CN := RX5) (T := TX5) (N := 26) C dX5_lays_1 (by first | assumption | exact hset_s _ _ _) rfl 20 (by decide) flX5_lays_60 wiX5_lays_X5 (by rfl) ?_
    refine V_iload_n (i := 1) C dX5_lays_4 rfl rfl ?_
    refine V_ialdK C dX5_lays_5 (by first | assumption | exact hset_s _ _ _) rfl hc (by decide) c1 ?_
    refine V_istore2 C dX5_lays_6 (by decide) ?_
    refine V_iconst (v := (-1)) C dX5_lays_7 (by decide) ?_
    refine V_istore3 C dX5_lays_8 (by decide) ?_
    refine V_iconst (v := 0) C dX5_lays_9 (by decide) ?_
    refine V_istore4 C dX5_lays_10 (by decide) ?_
    refine V_iload_n (i := 2) C dX5_lays_12 rfl rfl ?_
    refine V_iconst (v := (-1)) C dX5_lays_13 (by decide) ?_
    refine V_icmp_eq (tgt := 94) C dX5_lays_14 (by decide) (fun _ => ?_) (fun z9 => absurd rfl z9)
    refine V_iload_n (i := 3) C dX5_lays_94 rfl rfl ?_
    refine V_iconst (v := (-1)) C dX5_lays_95 (by decide) ?_
    refine V_icmp_ne (tgt := 101) C dX5_lays_96 (by decide) (fun z9 => absurd rfl z9) (fun _ => ?_)
    refine V_iconst (v := 0) C dX5_lays_99 (by decide) ?_
    exact V_zret C dX5_lays_100 hr (by rfl) (Or.inl ⟨hly, rfl, rfl⟩) (by exact Nat.le_of_ble_eq_true rfl) (by exact Nat.le_of_ble_eq_true rfl)
  · have hp := hI.1.2.2 c hc p ho
    rw [ho] at c1
    have c1 : I 20 c = nI p := c1
    obtain ⟨⟨w1, w2⟩, g1, g2⟩ := hd.2.2 p hp
    have hN := (hd.N hp).2
    have hN2 : xwd X p * xhg X p ≤ 64 := hN
    obtain ⟨p1, p2⟩ := hP.2.2.1 p hp
    have m10 := r.m10
    have m11 := r.m11
    have m13 := r.m13
    have hly : ∀ o, fuN (xg X p) (xN X p) = o → lyO X c (xnw X) = match o with
      | none => none
      | some k => if (xg X p k).1 = 1 then (match clt (xg X p k) with
        | none => none
        | some b => if b ∈ rtr (xcr X c) ∧ (k / xwd X p = 0 ∨ dryB (xg X p) (ltS (xg X p) (k / xwd X p - 1) (xwd X p) (xwd X p)) (xnw X) = true) then some (p, k, b) else none) else none := by
      intro o ho2
      unfold lyO
      rw [ho]
      dsimp only
      rw [ho2]
      cases o <;> rfl
    have hwm : ∀ {i}, i < xN X p → nI i - nI i / nI (xwd X p) * nI (xwd X p) = nI (i % xwd X p) := fun hi => pk_rem (by omega) (by omega) (by omega)
    have hwv : ∀ {i}, i < xN X p → nI i / nI (xwd X p) = nI (i / xwd X p) := fun hi => pk_div (by omega) (by omega) (by omega)
    have hw0 : ¬ nI (xwd X p) = 0 := nI_ne0 (by omega) (by omega)
    have hpm := m1_ne p (by omega)
    refine Mt_of (cc := cX5_lays) (maxL := 6) (ret := (some .boolean)) (own := RX5) [some (.ref (A 0)), some (.int (nI c)), none, none, none, none] rfl (by decide +kernel) rfl rfl (by exact Nat.le_of_ble_eq_true rfl) rfl ?_
    intro p9 e9 s9 m9 args9 below9 meth9 c9 C hr hnm
    refine V_join 94 (fun h2 ls2 st2 => h2 = h ∧ ls2 = [some (.ref (A 0)), some (.int (nI c)), some (.int (nI p)), some (.int (olI (fuN (xg X p) (xN X p)))), none, none] ∧ st2 = []) ?_ (fun hj94 => ?_)
    · rintro h2 ls2 st2 ⟨z9, rfl, rfl⟩
      have z9 := z9.symm
      subst z9
      have hf : ∀ n k, fuN (xg X p) n = some k → k < n := by
        intro n
        induction n with
        | zero => intro k z; cases z
        | succ n ih =>
          intro k z
          unfold fuN at z
          split at z
          · rename_i k3 hk3
            cases z
            exact Nat.lt_succ_of_lt (ih _ hk3)
          · split at z
            · cases z
            · cases z
              exact Nat.lt_succ_self _
      rcases hfu : fuN (xg X p) (xN X p) with _ | k
      · have hly := hly _ hfu
        refine V_iload_n (i := 3) C dX5_lays_94 rfl rfl ?_
        refine V_iconst (v := (-1)) C dX5_lays_95 (by decide) ?_
        refine V_icmp_ne (tgt := 101) C dX5_lays_96 (by decide) (fun z9 => absurd rfl z9) (fun _ => ?_)
        refine V_iconst (v := 0) C dX5_lays_99 (by decide) ?_
        exact V_zret C dX5_lays_100 hr (by rfl) (Or.inl ⟨hly, rfl, rfl⟩) (by exact Nat.le_of_ble_eq_true rfl) (by exact Nat.le_of_ble_eq_true rfl)
      · have hly := hly _ hfu
        have hk := hf _ _ hfu
        have hkm := m1_ne k (by omega)
        have hcl := cx_lt (p := p) w1 w2 g2 (by omega) hk
        obtain ⟨q1, q2, q3, q4, q5, q6⟩ := hP.2.2.2.1 p hp k hk
        have hmod := k_mod (k := k) w1
        have hdiv := k_div hk
        dsimp only at hly
        rw [show olI (some k) = nI k from rfl]
        have m14 := r.m14
        have m24 := r.m24
        refine V_join 175 (fun h2 ls2 st2 => h2 = h ∧ lyO X c (xnw X) = none ∧ st2 = []) ?_ (fun hj175 => ?_)
        · rintro h2 ls2 st2 ⟨z9, hn, rfl⟩
          have z9 := z9.symm
          subst z9
          refine V_iconst (v := 0) C dX5_lays_175 (by decide) ?_
          exact V_zret C dX5_lays_176 hr (by rfl) (Or.inl ⟨hn, rfl, rfl⟩) (by exact Nat.le_of_ble_eq_true rfl) (by exact Nat.le_of_ble_eq_true rfl)
        refine V_join 177 (fun h2 ls2 st2 => h2 = h ∧ ls2 = [some (.ref (A 0)), some (.int (nI c)), some (.int (nI p)), some (.int (nI k)), some (.int (nI (k / xwd X p))), some (.int (nI (cx (xwd X p) p k)))] ∧ (∃ b, clt (xg X p k) = some b ∧ lyO X c (xnw X) = some (p, k, b)) ∧ st2 = []) ?_ (fun hj177 => ?_)
        · rintro h2 ls2 st2 ⟨z9, rfl, ⟨b, hb, hlyb⟩, rfl⟩
          have z9 := z9.symm
          subst z9
          rw [hb] at q3
          have q3 : I 14 (cx (xwd X p) p k) = nI b := q3
          have hbl := ((hI.1.2.1 p hp).1 k hk).1 b hb
          have hb12 : b < 12 := by omega
          obtain ⟨u1, u2, u3, u4, u5, u6⟩ := hP.1 b hbl
          refine V_aload_n (i := 0) C dX5_lays_177 rfl rfl ?_
          refine V_get (ci := 5) (CN := RX5) (T := TX5) (N := 26) C dX5_lays_178 (by first | assumption | exact hset_s _ _ _) rfl 13 (by decide) flX5_lays_39 wiX5_lays_X5 (by rfl) ?_
          refine V_iload C dX5_lays_181 rfl ?_
          refine V_iconst (v := 2) C dX5_lays_183 (by decide) ?_
          refine V_iastK C dX5_lays_184 (by first | assumption | exact hset_s _ _ _) rfl hcl (by decide) ?_
          have r3 := r.s13 (fset (I 13) (cx (xwd X p) p k) 2)
          have f3 := r.f13 (iarr (cA 0) 320 (fset (I 13) (cx (xwd X p) p k) 2))
          have m0 := r3.m0
          have m14 := r3.m14
          have m7 := r3.m7
          refine V_aload_n (i := 0) C dX5_lays_185 rfl rfl ?_
          refine V_get (ci := 5) (CN := RX5) (T := TX5) (N := 26) C dX5_lays_186 (by first | assumption | exact hset_s _ _ _) rfl 7 (by decide) flX5_lays_24 wiX5_lays_X5 (by rfl) ?_
          refine V_aload_n (i := 0) C dX5_lays_189 rfl rfl ?_
          refine V_get (ci := 5) (CN := RX5) (T := TX5) (N := 26) C dX5_lays_190 (by first | assumption | exact hset_s _ _ _) rfl 14 (by decide) flX5_lays_42 wiX5_lays_X5 (by rfl) ?_
          refine V_iload C dX5_lays_193 rfl ?_
          refine V_ialdK C dX5_lays_195 (by first | assumption | exact hset_s _ _ _) rfl hcl (by decide) q3 ?_
          refine V_dup2 C dX5_lays_196 rfl rfl ?_
          refine V_ialdK C dX5_lays_197 (by first | assumption | exact hset_s _ _ _) rfl hb12 (by decide) rfl ?_
          refine V_iconst (v := 1) C dX5_lays_198 (by decide) ?_
          refine V_isub C dX5_lays_199 ?_
          refine V_iastK C dX5_lays_200 (by first | assumption | exact hset_s _ _ _) rfl hb12 (by decide) ?_
          have r4 := r3.s7 (fset (I 7) b (I 7 b - 1))
          have f4 := f3.tr (r3.f7 (iarr (cA 0) 12 (fset (I 7) b (I 7 b - 1))))
          have m0 := r4.m0
          have m14 := r4.m14
          have m8 := r4.m8
          refine V_aload_n (i := 0) C dX5_lays_201 rfl rfl ?_
          refine V_get (ci := 5) (CN := RX5) (T := TX5) (N := 26) C dX5_lays_202 (by first | assumption | exact hset_s _ _ _) rfl 8 (by decide) flX5_lays_27 wiX5_lays_X5 (by rfl) ?_
          refine V_aload_n (i := 0) C dX5_lays_205 rfl rfl ?_
          refine V_get (ci := 5) (CN := RX5) (T := TX5) (N := 26) C dX5_lays_206 (by first | assumption | exact hset_s _ _ _) rfl 14 (by decide) flX5_lays_42 wiX5_lays_X5 (by rfl) ?_
          refine V_iload C dX5_lays_209 rfl ?_
          refine V_ialdK C dX5_lays_211 (by first | assumption | exact hset_s _ _ _) rfl hcl (by decide) q3 ?_
          refine V_dup2 C dX5_lays_212 rfl rfl ?_
          refine V_ialdK C dX5_lays_213 (by first | assumption | exact hset_s _ _ _) rfl hb12 (by decide) rfl ?_
          refine V_iconst (v := 1) C dX5_lays_214 (by decide) ?_
          refine V_iadd C dX5_lays_215 ?_
          refine V_iastK C dX5_lays_216 (by first | assumption | exact hset_s _ _ _) rfl hb12 (by decide) ?_
          have r5 := r4.s8 (fset (I 8) b (I 8 b + 1))
          have f5 := f4.tr (r4.f8 (iarr (cA 0) 12 (fset (I 8) b (I 8 b + 1))))
          have m0 := r5.m0
          have m16 := r5.m16
          refine V_aload_n (i := 0) C dX5_lays_217 rfl rfl ?_
          refine V_get (ci := 5) (CN := RX5) (T := TX5) (N := 26) C dX5_lays_218 (by first | assumption | exact hset_s _ _ _) rfl 16 (by decide) flX5_lays_48 wiX5_lays_X5 (by rfl) ?_
          refine V_iload C dX5_lays_221 rfl ?_
          refine V_aload_n (i := 0) C dX5_lays_223 rfl rfl ?_
          refine V_get (ci := 5) (CN := RX5) (T := TX5) (N := 26) C dX5_lays_224 (by first | assumption | exact hset_s _ _ _) rfl 1 (by decide) flX5_lays_150 wiX5_lays_X5 (by rfl) ?_
          refine V_iastK C dX5_lays_227 (by first | assumption | exact hset_s _ _ _) rfl hcl (by decide) ?_
          have r6 := r5.s16 (fset (I 16) (cx (xwd X p) p k) (xnw X))
          have f6 := f5.tr (r5.f16 (iarr (cA 0) 320 (fset (I 16) (cx (xwd X p) p k) (xnw X))))
          have m0 := r6.m0
          have m17 := r6.m17
          have m22 := r6.m22
          refine V_aload_n (i := 0) C dX5_lays_228 rfl rfl ?_
          refine V_get (ci := 5) (CN := RX5) (T := TX5) (N := 26) C dX5_lays_229 (by first | assumption | exact hset_s _ _ _) rfl 17 (by decide) flX5_lays_51 wiX5_lays_X5 (by rfl) ?_
          refine V_iload C dX5_lays_232 rfl ?_
          refine V_aload_n (i := 0) C dX5_lays_234 rfl rfl ?_
          refine V_get (ci := 5) (CN := RX5) (T := TX5) (N := 26) C dX5_lays_235 (by first | assumption | exact hset_s _ _ _) rfl 22 (by decide) flX5_lays_66 wiX5_lays_X5 (by rfl) ?_
          refine V_iload_n (i := 1) C dX5_lays_238 rfl rfl ?_
          refine V_ialdK C dX5_lays_239 (by first | assumption | exact hset_s _ _ _) rfl hc (by decide) c3 ?_
          refine V_iastK C dX5_lays_240 (by first | assumption | exact hset_s _ _ _) rfl hcl (by decide) ?_
          have r7 := r6.s17 (fset (I 17) (cx (xwd X p) p k) (rdy (xcr X c)))
          have f7 := f6.tr (r6.f17 (iarr (cA 0) 320 (fset (I 17) (cx (xwd X p) p k) (rdy (xcr X c)))))
          have m0 := r7.m0
          have m25 := r7.m25
          refine V_aload_n (i := 0) C dX5_lays_241 rfl rfl ?_
          refine V_get (ci := 5) (CN := RX5) (T := TX5) (N := 26) C dX5_lays_242 (by first | assumption | exact hset_s _ _ _) rfl 25 (by decide) flX5_lays_75 wiX5_lays_X5 (by rfl) ?_
          refine V_iload_n (i := 1) C dX5_lays_245 rfl rfl ?_
          refine V_dup2 C dX5_lays_246 rfl rfl ?_
          refine V_ialdK C dX5_lays_247 (by first | assumption | exact hset_s _ _ _) rfl hc (by decide) c5 ?_
          refine V_iconst (v := 1) C dX5_lays_248 (by decide) ?_
          refine V_iadd C dX5_lays_249 ?_
          refine V_iastK C dX5_lays_250 (by first | assumption | exact hset_s _ _ _) rfl hc (by decide) ?_
          have r8 := r7.s25 (fset (I 25) c (rld (xcr X c) + 1))
          have f8 := f7.tr (r7.f25 (iarr (cA 0) 3 (fset (I 25) c (rld (xcr X c) + 1))))
          have hP0 : PR (xpl X p (xlo X) (xg X p)) I F := by rw [xpl_id]; exact hP
          have hP7 : PR (lyX X p k b (xnw X) (xnw X + rdy (xcr X c))) (fset (fset (fset (fset (fset I 13 (fset (I 13) (cx (xwd X p) p k) 2)) 7 (fset (I 7) b (I 7 b - 1))) 8 (fset (I 8) b (I 8 b + 1))) 16 (fset (I 16) (cx (xwd X p) p k) (xnw X))) 17 (fset (I 17) (cx (xwd X p) p k) (rdy (xcr X c)))) F := by
            refine hP0.upd hd hp hk (PRl.put (L := xlo X) (I := I) (F := F) hP.1 ⟨u1, u2, u3, (fset_s _ _ _).trans (by rw [u4]; rfl), (fset_s _ _ _).trans (by rw [u5]; rfl), ?_⟩ (fun j hj => ⟨rfl, rfl, rfl, rfl, fset_n hj, fset_n hj⟩)) (fun j hj1 hj2 => ⟨(fset_n (by omega)).trans (hP.2.1 j hj1 hj2).1, (fset_n (by omega)).trans (hP.2.1 j hj1 hj2).2⟩) ⟨rfl, rfl, rfl, rfl, rfl, rfl, rfl, rfl⟩ ⟨q1, fset_s _ _ _, by rw [show clt (cdL (xg X p k) (xnw X) (xnw X + rdy (xcr X c))) = some b from hb]; exact q3, q4, fset_s _ _ _, fun _ => ?_⟩ (fun i hi => ⟨rfl, fset_n hi, rfl, fset_n hi, fset_n hi, rfl⟩)
            · show I 4 b - fset (I 7) b (I 7 b - 1) b - fset (I 8) b (I 8 b + 1) b = llf (xlo X b)
              rw [fset_s, fset_s, i32_1]
              exact u6
            · show fset (I 16) (cx (xwd X p) p k) (xnw X) (cx (xwd X p) p k) + fset (I 17) (cx (xwd X p) p k) (rdy (xcr X c)) (cx (xwd X p) p k) = xnw X + rdy (xcr X c)
              rw [fset_s, fset_s]
          refine V_iconst (v := 1) C dX5_lays_251 (by decide) ?_
          exact V_zret C dX5_lays_252 hr (by rfl) (Or.inr ⟨(p, k, b), hlyb, rfl, ⟨_, F, r8, hP7.crew (c := c) (fun j hj => fset_n (by omega)) ⟨(show I 20 c = olI (rpc (xcr X c)) by rw [ho]; exact c1), c2, c3, c4, fset_s _ _ _, c6, c7⟩ (fun e2 he2 hn hp => ⟨hp.1, hp.2.1, hp.2.2.1, hp.2.2.2.1, (fset_n hn).trans hp.2.2.2.2.1, hp.2.2.2.2.2⟩)⟩, f8⟩) (by exact Nat.le_of_ble_eq_true rfl) (by exact Nat.le_of_ble_eq_true rfl)
        · refine V_iload_n (i := 3) C dX5_lays_94 rfl rfl ?_
          refine V_iconst (v := (-1)) C dX5_lays_95 (by decide) ?_
          refine V_icmp_ne (tgt := 101) C dX5_lays_96 (by decide) (fun _ => ?_) (fun z9 => absurd z9 hkm)
          refine V_iload_n (i := 3) C dX5_lays_101 rfl rfl ?_
          refine V_aload_n (i := 0) C dX5_lays_102 rfl rfl ?_
          refine V_get (ci := 5) (CN := RX5) (T := TX5) (N := 26) C dX5_lays_103 (by first | assumption | exact hset_s _ _ _) rfl 10 (by decide) flX5_lays_30 wiX5_lays_X5 (by rfl) ?_
          refine V_iload_n (i := 2) C dX5_lays_106 rfl rfl ?_
          refine V_ialdK C dX5_lays_107 (by first | assumption | exact hset_s _ _ _) rfl (by omega) (by decide) p1 ?_
          refine V_idiv C dX5_lays_108 hw0 ?_
          rw [hwv hk]
          refine V_istore4 C dX5_lays_109 (by decide) ?_
          refine V_iload_n (i := 2) C dX5_lays_111 rfl rfl ?_
          refine V_iload_n (i := 3) C dX5_lays_112 rfl rfl ?_
          refine V_aload_n (i := 0) C dX5_lays_113 rfl rfl ?_
          refine V_get (ci := 5) (CN := RX5) (T := TX5) (N := 26) C dX5_lays_114 (by first | assumption | exact hset_s _ _ _) rfl 10 (by decide) flX5_lays_30 wiX5_lays_X5 (by rfl) ?_
          refine V_iload_n (i := 2) C dX5_lays_117 rfl rfl ?_
          refine V_ialdK C dX5_lays_118 (by first | assumption | exact hset_s _ _ _) rfl (by omega) (by decide) p1 ?_
          refine V_irem C dX5_lays_119 hw0 ?_
          rw [hwm hk]
          refine V_iload C dX5_lays_120 rfl ?_
          refine V_callS (n := 3) C (r_cellOf) dX5_lays_122 gX5_lays_X5_cellOf rfl (by decide +kernel) rfl rfl (by exact Nat.le_of_ble_eq_true rfl) ⟨Nat.le_of_ble_eq_true rfl, Nat.le_of_ble_eq_true rfl⟩ ⟨Nat.le_of_ble_eq_true rfl, Nat.le_of_ble_eq_true rfl⟩ (fun v9 h9 hr9 => ?_)
          obtain ⟨rfl, z9⟩ := hr9
          have z9 := z9.symm
          subst z9
          rw [show 64 * p + 8 * (k / xwd X p) + k % xwd X p = cx (xwd X p) p k from rfl]
          refine V_istore5 C dX5_lays_125 (by decide) ?_
          refine V_aload_n (i := 0) C dX5_lays_127 rfl rfl ?_
          refine V_get (ci := 5) (CN := RX5) (T := TX5) (N := 26) C dX5_lays_128 (by first | assumption | exact hset_s _ _ _) rfl 13 (by decide) flX5_lays_39 wiX5_lays_X5 (by rfl) ?_
          refine V_iload C dX5_lays_131 rfl ?_
          refine V_ialdK C dX5_lays_133 (by first | assumption | exact hset_s _ _ _) rfl hcl (by decide) q2 ?_
          refine V_iconst (v := 1) C dX5_lays_134 (by decide) ?_
          refine V_icmp_ne (tgt := 175) C dX5_lays_135 (by decide) (fun c135 => ?_) (fun c135 => ?_)
          · have c135 : ¬ (xg X p k).1 = 1 := c135
            have e9 : lyO X c (xnw X) = none := hly.trans (if_neg c135)
            exact hj175 _ _ _ ⟨rfl, e9, rfl⟩
          · have c135 : (xg X p k).1 = 1 := c135
            have hly := hly.trans (if_pos c135)
            obtain ⟨b, hb⟩ := ((hI.1.2.1 p hp).1 k hk).2.1 c135
            have hbl := ((hI.1.2.1 p hp).1 k hk).1 b hb
            rw [hb] at hly q3
            have q3 : I 14 (cx (xwd X p) p k) = nI b := q3
            dsimp only at hly
            refine V_aload_n (i := 0) C dX5_lays_138 rfl rfl ?_
            refine V_get (ci := 5) (CN := RX5) (T := TX5) (N := 26) C dX5_lays_139 (by first | assumption | exact hset_s _ _ _) rfl 24 (by decide) flX5_lays_72 wiX5_lays_X5 (by rfl) ?_
            refine V_bipush (v := 12) C dX5_lays_142 (by decide) ?_
            refine V_iload_n (i := 1) C dX5_lays_144 rfl rfl ?_
            refine V_imul C dX5_lays_145 ?_
            refine V_aload_n (i := 0) C dX5_lays_146 rfl rfl ?_
            refine V_get (ci := 5) (CN := RX5) (T := TX5) (N := 26) C dX5_lays_147 (by first | assumption | exact hset_s _ _ _) rfl 14 (by decide) flX5_lays_42 wiX5_lays_X5 (by rfl) ?_
            refine V_iload C dX5_lays_150 rfl ?_
            refine V_ialdK C dX5_lays_152 (by first | assumption | exact hset_s _ _ _) rfl hcl (by decide) q3 ?_
            refine V_iadd C dX5_lays_153 ?_
            refine V_zaldK C dX5_lays_154 (by first | assumption | exact hset_s _ _ _) (show (12 : Int32) * nI c + nI b = nI (12 * c + b) by rw [show (12 : Int32) = nI 12 from rfl, pk_mul, nI_add]) (by omega) (by decide) (c6 b (by omega)) ?_
            refine V_if_eq (tgt := 175) C dX5_lays_155 (by decide) (fun c155 => ?_) (fun c155 => ?_)
            · have c155 := ite0.mp c155
              have e9 : lyO X c (xnw X) = none := hly.trans (if_neg (fun z => c155 z.1))
              exact hj175 _ _ _ ⟨rfl, e9, rfl⟩
            · have c155 := Classical.not_not.mp (fun z => c155 (ite0.mpr z))
              refine V_iload C dX5_lays_158 rfl ?_
              refine V_if_le (tgt := 177) C dX5_lays_160 (by decide) (fun c160 => ?_) (fun c160 => ?_)
              · have c160 : k / xwd X p = 0 := by
                  exact Nat.le_zero.mp ((nI_leI (b := 0) (Nat.lt_trans hdiv (by omega)) (by decide)).mp c160)
                have e9 : lyO X c (xnw X) = some (p, k, b) := hly.trans (if_pos ⟨c155, Or.inl c160⟩)
                exact hj177 _ _ _ ⟨rfl, rfl, ⟨b, hb, e9⟩, rfl⟩
              · have c160 : ¬ k / xwd X p = 0 := fun z => c160 (by rw [z]; exact Int32.le_refl _)
                obtain ⟨y, hy⟩ : ∃ y, k / xwd X p = y + 1 := Nat.exists_eq_succ_of_ne_zero c160
                refine V_aload_n (i := 0) C dX5_lays_163 rfl rfl ?_
                refine V_iload_n (i := 2) C dX5_lays_164 rfl rfl ?_
                refine V_iload C dX5_lays_165 rfl ?_
                refine V_iconst (v := 1) C dX5_lays_167 (by decide) ?_
                refine V_isub C dX5_lays_168 ?_
                rw [hy, nI_pred]
                refine V_callV (n := 2) C (r_isDry r hI hM hP hp (show y < xhg X p by omega)) dX5_lays_169 gX5_lays_X5_isDry rfl (by first | assumption | exact hset_s _ _ _) rfl (by decide +kernel) rfl rfl (by exact Nat.le_of_ble_eq_true rfl) ⟨Nat.le_of_ble_eq_true rfl, Nat.le_of_ble_eq_true rfl⟩ ⟨Nat.le_of_ble_eq_true rfl, Nat.le_of_ble_eq_true rfl⟩ (fun v9 h9 hr9 => ?_)
                obtain ⟨rfl, z9⟩ := hr9
                have z9 := z9.symm
                subst z9
                rw [← hy]
                refine V_if_ne (tgt := 177) C dX5_lays_172 (by decide) (fun c172 => ?_) (fun c172 => ?_)
                · have c172 := Classical.not_not.mp (fun z => c172 (ite0.mpr z))
                  have e9 : lyO X c (xnw X) = some (p, k, b) := hly.trans (if_pos ⟨c155, Or.inr (by rw [show k / xwd X p - 1 = y by omega]; exact c172)⟩)
                  exact hj177 _ _ _ ⟨rfl, rfl, ⟨b, hb, e9⟩, rfl⟩
                · have c172 := ite0.mp c172
                  have e9 : lyO X c (xnw X) = none := hly.trans (if_neg (fun z => z.2.elim c160 (fun z2 => c172 (by rw [show k / xwd X p - 1 = y by omega] at z2; exact z2))))
                  exact hj175 _ _ _ ⟨rfl, e9, rfl⟩
    · refine V_join 12 (fun h2 ls2 st2 => ∃ i, i < xN X p ∧ fuN (xg X p) (xN X p) = some i ∧ h2 = h ∧ ls2 = [some (.ref (A 0)), some (.int (nI c)), some (.int (nI p)), some (.int (nI i)), some (.int (nI (i + 1))), none] ∧ st2 = []) ?_ (fun hj12 => ?_)
      · rintro h2 ls2 st2 ⟨i, hi, hfi, z9, rfl, rfl⟩
        have z9 := z9.symm
        subst z9
        have him := m1_ne i (by omega)
        refine V_iload_n (i := 2) C dX5_lays_12 rfl rfl ?_
        refine V_iconst (v := (-1)) C dX5_lays_13 (by decide) ?_
        refine V_icmp_eq (tgt := 94) C dX5_lays_14 (by decide) (fun z9 => absurd z9 hpm) (fun _ => ?_)
        refine V_iload C dX5_lays_17 rfl ?_
        refine V_aload_n (i := 0) C dX5_lays_19 rfl rfl ?_
        refine V_get (ci := 5) (CN := RX5) (T := TX5) (N := 26) C dX5_lays_20 (by first | assumption | exact hset_s _ _ _) rfl 10 (by decide) flX5_lays_30 wiX5_lays_X5 (by rfl) ?_
        refine V_iload_n (i := 2) C dX5_lays_23 rfl rfl ?_
        refine V_ialdK C dX5_lays_24 (by first | assumption | exact hset_s _ _ _) rfl (by omega) (by decide) p1 ?_
        refine V_aload_n (i := 0) C dX5_lays_25 rfl rfl ?_
        refine V_get (ci := 5) (CN := RX5) (T := TX5) (N := 26) C dX5_lays_26 (by first | assumption | exact hset_s _ _ _) rfl 11 (by decide) flX5_lays_33 wiX5_lays_X5 (by rfl) ?_
        refine V_iload_n (i := 2) C dX5_lays_29 rfl rfl ?_
        refine V_ialdK C dX5_lays_30 (by first | assumption | exact hset_s _ _ _) rfl (by omega) (by decide) p2 ?_
        refine V_imul C dX5_lays_31 ?_
        rw [pk_mul]
        refine V_icmp_ge (tgt := 94) C dX5_lays_32 (by decide) (fun c32 => ?_) (fun c32 => ?_)
        · exact V_wk (by rw [hfi]; simp [lle, olI]) (hj94 _ _ _ ⟨rfl, rfl, rfl⟩)
        · refine V_iload_n (i := 3) C dX5_lays_35 rfl rfl ?_
          refine V_iconst (v := (-1)) C dX5_lays_36 (by decide) ?_
          refine V_icmp_ne (tgt := 94) C dX5_lays_37 (by decide) (fun _ => ?_) (fun z9 => absurd z9 him)
          exact V_wk (by rw [hfi]; simp [lle, olI]) (hj94 _ _ _ ⟨rfl, rfl, rfl⟩)
      · refine V_aload_n (i := 0) C dX5_lays_0 rfl rfl ?_
        refine V_get (ci := 5) (CN := RX5) (T := TX5) (N := 26) C dX5_lays_1 (by first | assumption | exact hset_s _ _ _) rfl 20 (by decide) flX5_lays_60 wiX5_lays_X5 (by rfl) ?_
        refine V_iload_n (i := 1) C dX5_lays_4 rfl rfl ?_
        refine V_ialdK C dX5_lays_5 (by first | assumption | exact hset_s _ _ _) rfl hc (by decide) c1 ?_
        refine V_istore2 C dX5_lays_6 (by decide) ?_
        refine V_iconst (v := (-1)) C dX5_lays_7 (by decide) ?_
        refine V_istore3 C dX5_lays_8 (by decide) ?_
        refine V_iconst (v := 0) C dX5_lays_9 (by decide) ?_
        refine V_istore4 C dX5_lays_10 (by decide) ?_
        refine V_for (xN X p) (fun i h2 ls2 => h2 = h ∧ (∀ j, j < i → dn (xg X p j)) ∧ ls2 = [some (.ref (A 0)), some (.int (nI c)), some (.int (nI p)), some (.int (-1)), some (.int (nI i)), none]) ?_ ?_ 0 (Nat.zero_le _) ⟨rfl, fun j hj => absurd hj (Nat.not_lt_zero j), rfl⟩
        · rintro i h2 ls2 hi ⟨z9, hdn, rfl⟩ ih
          have z9 := z9.symm
          subst z9
          have hcl := cx_lt (p := p) w1 w2 g2 (by omega) hi
          obtain ⟨q1, q2, q3, q4, q5, q6⟩ := hP.2.2.2.1 p hp i hi
          refine V_iload_n (i := 2) C dX5_lays_12 rfl rfl ?_
          refine V_iconst (v := (-1)) C dX5_lays_13 (by decide) ?_
          refine V_icmp_eq (tgt := 94) C dX5_lays_14 (by decide) (fun z9 => absurd z9 hpm) (fun _ => ?_)
          refine V_iload C dX5_lays_17 rfl ?_
          refine V_aload_n (i := 0) C dX5_lays_19 rfl rfl ?_
          refine V_get (ci := 5) (CN := RX5) (T := TX5) (N := 26) C dX5_lays_20 (by first | assumption | exact hset_s _ _ _) rfl 10 (by decide) flX5_lays_30 wiX5_lays_X5 (by rfl) ?_
          refine V_iload_n (i := 2) C dX5_lays_23 rfl rfl ?_
          refine V_ialdK C dX5_lays_24 (by first | assumption | exact hset_s _ _ _) rfl (by omega) (by decide) p1 ?_
          refine V_aload_n (i := 0) C dX5_lays_25 rfl rfl ?_
          refine V_get (ci := 5) (CN := RX5) (T := TX5) (N := 26) C dX5_lays_26 (by first | assumption | exact hset_s _ _ _) rfl 11 (by decide) flX5_lays_33 wiX5_lays_X5 (by rfl) ?_
          refine V_iload_n (i := 2) C dX5_lays_29 rfl rfl ?_
          refine V_ialdK C dX5_lays_30 (by first | assumption | exact hset_s _ _ _) rfl (by omega) (by decide) p2 ?_
          refine V_imul C dX5_lays_31 ?_
          rw [pk_mul]
          refine V_icmp_ge (tgt := 94) C dX5_lays_32 (by decide) (fun z9 => absurd z9 (nI_ge hi (by omega))) (fun _ => ?_)
          refine V_iload_n (i := 3) C dX5_lays_35 rfl rfl ?_
          refine V_iconst (v := (-1)) C dX5_lays_36 (by decide) ?_
          refine V_icmp_ne (tgt := 94) C dX5_lays_37 (by decide) (fun z9 => absurd rfl z9) (fun _ => ?_)
          refine V_aload_n (i := 0) C dX5_lays_40 rfl rfl ?_
          refine V_get (ci := 5) (CN := RX5) (T := TX5) (N := 26) C dX5_lays_41 (by first | assumption | exact hset_s _ _ _) rfl 13 (by decide) flX5_lays_39 wiX5_lays_X5 (by rfl) ?_
          refine V_iload_n (i := 2) C dX5_lays_44 rfl rfl ?_
          refine V_iload C dX5_lays_45 rfl ?_
          refine V_aload_n (i := 0) C dX5_lays_47 rfl rfl ?_
          refine V_get (ci := 5) (CN := RX5) (T := TX5) (N := 26) C dX5_lays_48 (by first | assumption | exact hset_s _ _ _) rfl 10 (by decide) flX5_lays_30 wiX5_lays_X5 (by rfl) ?_
          refine V_iload_n (i := 2) C dX5_lays_51 rfl rfl ?_
          refine V_ialdK C dX5_lays_52 (by first | assumption | exact hset_s _ _ _) rfl (by omega) (by decide) p1 ?_
          refine V_irem C dX5_lays_53 hw0 ?_
          rw [hwm hi]
          refine V_iload C dX5_lays_54 rfl ?_
          refine V_aload_n (i := 0) C dX5_lays_56 rfl rfl ?_
          refine V_get (ci := 5) (CN := RX5) (T := TX5) (N := 26) C dX5_lays_57 (by first | assumption | exact hset_s _ _ _) rfl 10 (by decide) flX5_lays_30 wiX5_lays_X5 (by rfl) ?_
          refine V_iload_n (i := 2) C dX5_lays_60 rfl rfl ?_
          refine V_ialdK C dX5_lays_61 (by first | assumption | exact hset_s _ _ _) rfl (by omega) (by decide) p1 ?_
          refine V_idiv C dX5_lays_62 hw0 ?_
          rw [hwv hi]
          refine V_callS (n := 3) C (r_cellOf) dX5_lays_63 gX5_lays_X5_cellOf rfl (by decide +kernel) rfl rfl (by exact Nat.le_of_ble_eq_true rfl) ⟨Nat.le_of_ble_eq_true rfl, Nat.le_of_ble_eq_true rfl⟩ ⟨Nat.le_of_ble_eq_true rfl, Nat.le_of_ble_eq_true rfl⟩ (fun v9 h9 hr9 => ?_)
          obtain ⟨rfl, z9⟩ := hr9
          have z9 := z9.symm
          subst z9
          rw [show 64 * p + 8 * (i / xwd X p) + i % xwd X p = cx (xwd X p) p i from rfl]
          refine V_ialdK C dX5_lays_66 (by first | assumption | exact hset_s _ _ _) rfl hcl (by decide) q2 ?_
          refine V_istore5 C dX5_lays_67 (by decide) ?_
          refine V_iload C dX5_lays_69 rfl ?_
          refine V_iconst (v := 2) C dX5_lays_71 (by decide) ?_
          refine V_icmp_eq (tgt := 81) C dX5_lays_72 (by decide) (fun c72 => ?_) (fun c72 => ?_)
          · have e9 : dn (xg X p i) := Or.inl c72
            refine V_iconst (v := (-1)) C dX5_lays_81 (by decide) ?_
            refine V_goto (tgt := 87) C dX5_lays_82 (by decide) ?_
            refine V_istore3 C dX5_lays_87 (by decide) ?_
            refine V_iinc4 (v := nI (i + 1)) C dX5_lays_88 (nI_1 _) (by decide) ?_
            refine V_goto (tgt := 12) C dX5_lays_91 (by decide) ?_
            first
              | exact V_wk (by simp [lle]) (ih _ _ ⟨rfl, fun j hj => by rcases Nat.lt_succ_iff_lt_or_eq.mp hj with h2 | h2; exact hdn j h2; rw [h2]; exact e9, rfl⟩)
              | exact V_wk (by simp [lle]) (hj12 _ _ _ ⟨i, hi, fuN_s hi e9 hdn, rfl, rfl, rfl⟩)
          · have c72 : ¬ (xg X p i).1 = 2 := c72
            refine V_iload C dX5_lays_75 rfl ?_
            refine V_iconst (v := 3) C dX5_lays_77 (by decide) ?_
            refine V_icmp_ne (tgt := 85) C dX5_lays_78 (by decide) (fun c78 => ?_) (fun c78 => ?_)
            · have e9 : ¬ dn (xg X p i) := fun z => z.elim c72 c78
              refine V_iload C dX5_lays_85 rfl ?_
              refine V_istore3 C dX5_lays_87 (by decide) ?_
              refine V_iinc4 (v := nI (i + 1)) C dX5_lays_88 (nI_1 _) (by decide) ?_
              refine V_goto (tgt := 12) C dX5_lays_91 (by decide) ?_
              first
                | exact V_wk (by simp [lle]) (ih _ _ ⟨rfl, fun j hj => by rcases Nat.lt_succ_iff_lt_or_eq.mp hj with h2 | h2; exact hdn j h2; rw [h2]; exact e9, rfl⟩)
                | exact V_wk (by simp [lle]) (hj12 _ _ _ ⟨i, hi, fuN_s hi e9 hdn, rfl, rfl, rfl⟩)
            · have e9 : dn (xg X p i) := Or.inr c78
              refine V_iconst (v := (-1)) C dX5_lays_81 (by decide) ?_
              refine V_goto (tgt := 87) C dX5_lays_82 (by decide) ?_
              refine V_istore3 C dX5_lays_87 (by decide) ?_
              refine V_iinc4 (v := nI (i + 1)) C dX5_lays_88 (nI_1 _) (by decide) ?_
              refine V_goto (tgt := 12) C dX5_lays_91 (by decide) ?_
              first
                | exact V_wk (by simp [lle]) (ih _ _ ⟨rfl, fun j hj => by rcases Nat.lt_succ_iff_lt_or_eq.mp hj with h2 | h2; exact hdn j h2; rw [h2]; exact e9, rfl⟩)
                | exact V_wk (by simp [lle]) (hj12 _ _ _ ⟨i, hi, fuN_s hi e9 hdn, rfl, rfl, rfl⟩)
        · rintro h2 ls2 ⟨z9, hdn, rfl⟩
          have z9 := z9.symm
          subst z9
          refine V_iload_n (i := 2) C dX5_lays_12 rfl rfl ?_
          refine V_iconst (v := (-1)) C dX5_lays_13 (by decide) ?_
          refine V_icmp_eq (tgt := 94) C dX5_lays_14 (by decide) (fun z9 => absurd z9 hpm) (fun _ => ?_)
          refine V_iload C dX5_lays_17 rfl ?_
          refine V_aload_n (i := 0) C dX5_lays_19 rfl rfl ?_
          refine V_get (ci := 5) (CN := RX5) (T := TX5) (N := 26) C dX5_lays_20 (by first | assumption | exact hset_s _ _ _) rfl 10 (by decide) flX5_lays_30 wiX5_lays_X5 (by rfl) ?_
          refine V_iload_n (i := 2) C dX5_lays_23 rfl rfl ?_
          refine V_ialdK C dX5_lays_24 (by first | assumption | exact hset_s _ _ _) rfl (by omega) (by decide) p1 ?_
          refine V_aload_n (i := 0) C dX5_lays_25 rfl rfl ?_
          refine V_get (ci := 5) (CN := RX5) (T := TX5) (N := 26) C dX5_lays_26 (by first | assumption | exact hset_s _ _ _) rfl 11 (by decide) flX5_lays_33 wiX5_lays_X5 (by rfl) ?_
          refine V_iload_n (i := 2) C dX5_lays_29 rfl rfl ?_
          refine V_ialdK C dX5_lays_30 (by first | assumption | exact hset_s _ _ _) rfl (by omega) (by decide) p2 ?_
          refine V_imul C dX5_lays_31 ?_
          rw [pk_mul]
          refine V_icmp_ge (tgt := 94) C dX5_lays_32 (by decide) (fun _ => ?_) (fun z9 => absurd (nI_le (Nat.le_refl _) (by omega)) z9)
          exact V_wk (by rw [fuN_n hdn]; simp [lle, olI]) (hj94 _ _ _ ⟨rfl, rfl, rfl⟩)
end RPUB5
