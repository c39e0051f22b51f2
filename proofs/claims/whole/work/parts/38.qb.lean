/-! the reference's calls: design -/
theorem cx_mono {w p j k : Nat} (hw1 : 1 ≤ w) (hw : w ≤ 8) (h : j < k) : cx w p j < cx w p k := by
  unfold cx
  have h1 := k_mod (k := k) hw1
  have h2 := k_mod (k := j) hw1
  have h3 := at_kk (w := w) k
  have h4 := at_kk (w := w) j
  have h5 : j / w ≤ k / w := Nat.div_le_div_right (Nat.le_of_lt h)
  rcases Nat.lt_or_eq_of_le h5 with h6 | h6
  · omega
  · rw [h6] at h4 ⊢
    omega
def dso (L : Nat → Ld) (G : Nat → Cd) (k : Nat) : Option Nat → (Nat → Ld) × (Nat → Cd)
  | none => (L, G)
  | some b => prom L G k b
theorem ds0_o {n : Nat} {L : Nat → Ld} {G : Nat → Cd} {k : Nat} {o : Option Nat} (ho : o = if (G k).1 = 0 then (nrs L (FP.fadd (FP.i2f (cwn (G k))) (cbr (G k))) n).1 else none) : ds0 n L G k = dso L (fset G k (cdA (G k) (FP.fadd (FP.i2f (cwn (G k))) (cbr (G k))))) k o := by
  have h1 : cam (fset G k (cdA (G k) (FP.fadd (FP.i2f (cwn (G k))) (cbr (G k)))) k) = FP.fadd (FP.i2f (cwn (G k))) (cbr (G k)) := by rw [fset_s]; rfl
  unfold ds0
  split
  · rename_i h0
    rw [if_pos h0] at ho
    unfold promN
    rw [h1, ← ho]
    cases o <;> rfl
  · rename_i h0
    rw [if_neg h0] at ho
    subst ho
    rfl
section RPUB11
variable {l : Launch} {D : va_G} {cA : Nat → ClassId} {bs : Nat} {A : Nat → Nat} {I : MI} {F : MF} {n : MN} {h : hE} {X : XS} {th : Int32} {M : Nat}
set_option maxHeartbeats 4000000 in
set_option maxRecDepth 100000 in
theorem q_design (r : MR cA A I F (mnn X th) h) (hI : CI M X) (hP : PR X I F) {x : Int32} : Mt l D cA bs yX5_design wsX5_design (rmk 3 0 0) [.ref (A 0), .int x] h (Rst cA A kIO kIA (sp_design X x) h) := by
  have m0 := r.m0
  have hd := hI.1.1
  have hnp := hd.2.1
  have hnl := hd.1
  have h64 : ∀ n, (64 : Int32) * nI n = nI (64 * n) := fun n => by rw [show (64 : Int32) = nI 64 from rfl, pk_mul]
  by_cases hx : picN X x
  · obtain ⟨p, hp, rfl, ep⟩ := picN_of hd hx
    obtain ⟨⟨w1, w2⟩, g1, g2⟩ := hd.2.2 p hp
    have hN := (hd.N hp).2
    have hN2 : xwd X p * xhg X p ≤ 64 := hN
    have hPI := hI.1.2.1 p hp
    have hw0 : ¬ nI (xwd X p) = 0 := nI_ne0 (by omega) (by omega)
    have e : sp_design X (nI p) = (none, nI (cntN (dsX X p).2 1 (xN X p)), xpl X p (dsX X p).1 (dsX X p).2) := by unfold sp_design; rw [if_pos hx, ep]
    rw [e]
    have hix : ∀ x y : Nat, (8 : Int32) * nI y + nI x = nI (8 * y + x) := fun x y => by rw [show (8 : Int32) = nI 8 from rfl, pk_mul, nI_add]
    have hP0 : PR (xpl X p (xlo X) (xg X p)) I F := by rw [xpl_id]; exact hP
    refine Mt_of (cc := cX5_design) (maxL := 7) (ret := (some .int)) (own := RX5) [some (.ref (A 0)), some (.int (nI p)), none, none, none, none, none] rfl (by decide +kernel) rfl rfl (by exact Nat.le_of_ble_eq_true rfl) rfl ?_
    intro p9 e9 s9 m9 args9 below9 meth9 c9 C hr hnm
    refine V_join 86 (fun h4 ls4 st4 => (∃ I4 B, MR cA A I4 (fset F 18 B) (mnn X 0) h4 ∧ PR (xpl X p (tbS (xlo X) (xg X p) (xN X p)).1 (tbS (xlo X) (xg X p) (xN X p)).2) I4 F ∧ ∀ j, j < 64 → B j = FP.fconst0) ∧ mfr h h4 ∧ ls4 = [some (.ref (A 0)), some (.int (nI p)), none, none, none, none, none] ∧ st4 = []) ?_ (fun hj86 => ?_)
    · rintro h4 ls4 st4 ⟨⟨I4, B4, r4, hP4, hB4⟩, f4, rfl, rfl⟩
      have hPIg := (hPI.tbS (Nat.le_refl _)).fg (xN X p)
      have hnb0 := fg_nb (xwd X p) (xN X p) (tbS (xlo X) (xg X p) (xN X p)).2
      obtain ⟨L1, hL1⟩ : ∃ L1, L1 = (tbS (xlo X) (xg X p) (xN X p)).1 := ⟨_, rfl⟩
      obtain ⟨G1, hG1⟩ : ∃ G1, G1 = fgG (tbS (xlo X) (xg X p) (xN X p)).2 (xN X p) := ⟨_, rfl⟩
      have edx : dsX X p = dsS (xwd X p) (xhg X p) (xnl X) L1 G1 (xN X p) := by rw [hL1, hG1]; rfl
      have hP5 : PR (xpl X p L1 G1) I4 (fset F 18 B4) := by
        rw [hL1, hG1]
        exact (hP4.ceq (fun k _ => fg_ceq k)).f18 B4
      have hb5 : bR (xwd X p) (xwd X p * xhg X p) G1 B4 := by rw [hG1]; exact bR_fg w1 w2 g2 hB4
      rw [← hL1, ← hG1] at hPIg
      rw [← hG1] at hnb0
      have hnb := fun {q : Nat} (hq : q ≤ xN X p) => dS_nb (g := xhg X p) hPIg w1 w2 g2 hN hnb0 hq
      rw [edx]
      clear hP4 hB4
      refine V_iconst (v := 0) C dX5_design_86 (by decide) ?_
      refine V_istore2 C dX5_design_87 (by decide) ?_
      refine V_for (xN X p) (fun i h6 ls6 => (∃ I6 F6, MR cA A I6 F6 (mnn X 0) h6 ∧ PR (xpl X p (dsS (xwd X p) (xhg X p) (xnl X) L1 G1 i).1 (dsS (xwd X p) (xhg X p) (xnl X) L1 G1 i).2) I6 F6 ∧ bR (xwd X p) (xwd X p * xhg X p) (dsS (xwd X p) (xhg X p) (xnl X) L1 G1 i).2 (F6 18)) ∧ mfr h h6 ∧ ls6 = [some (.ref (A 0)), some (.int (nI p)), some (.int (nI i)), none, none, none, none]) ?_ ?_ 0 (Nat.zero_le _) ⟨⟨I4, fset F 18 B4, r4, hP5, hb5⟩, f4, rfl⟩
      · rintro i h6 ls6 hi ⟨⟨I6, F6, r6, hP6, hb6⟩, f6, rfl⟩ ih
        have hi2 : i < xwd X p * xhg X p := hi
        have hst : ∀ S, S = dsS (xwd X p) (xhg X p) (xnl X) L1 G1 i → dsS (xwd X p) (xhg X p) (xnl X) L1 G1 (i + 1) = ((ds0 (xnl X) S.1 S.2 i).1, passG (xwd X p) (xhg X p) i (ds0 (xnl X) S.1 S.2 i).2 (lackC (ds0 (xnl X) S.1 S.2 i).1 ((ds0 (xnl X) S.1 S.2 i).2 i) (cam ((ds0 (xnl X) S.1 S.2 i).2 i)))) := fun S hS => by rw [hS]; rfl
        have hnq := hnb (Nat.le_of_lt hi)
        have hPI2 := hPIg.dS (w := xwd X p) (g := xhg X p) (i := i) (Nat.le_of_lt hi)
        obtain ⟨S, hS⟩ : ∃ S, S = dsS (xwd X p) (xhg X p) (xnl X) L1 G1 i := ⟨_, rfl⟩
        have hst := hst S hS
        rw [hst] at ih
        rw [← hS] at hP6 hb6 hnq hPI2
        clear hst hS
        have hPI3 := hPI2.d0 hi
        have ham := aim_fb hPI2 hN hi hnq
        have hl1 := lack_fb (a := cam ((ds0 (xnl X) S.1 S.2 i).2 i)) hPI3 hN hi (by rw [d0_am]; exact ham.1)
        have hnq0 := d0_nb (n := xnl X) (L := S.1) (k := i) (w := xwd X p) hnq
        have hnq2 : ∀ k, k < xwd X p * xhg X p → fb (cbr ((ds0 (xnl X) S.1 S.2 i).2 k)) (2 ^ 20) ∧ nz (cbr ((ds0 (xnl X) S.1 S.2 i).2 k)) := fun k hk => ⟨fb_mono (hnq0 k hk).1 (Nat.le_trans (difU_le (Nat.le_of_lt hi) hN) (by decide)), (hnq0 k hk).2⟩
        have hb7 : bR (xwd X p) (xwd X p * xhg X p) (ds0 (xnl X) S.1 S.2 i).2 (F6 18) := fun k hk => (hb6 k hk).trans d0_br.symm
        rw [d0_am] at hl1 ih
        obtain ⟨o, ho⟩ : ∃ o, o = if (S.2 i).1 = 0 then (nrs S.1 (FP.fadd (FP.i2f (cwn (S.2 i))) (cbr (S.2 i))) (xnl X)).1 else none := ⟨_, rfl⟩
        have hds := ds0_o ho
        have hob : ∀ b, o = some b → b < xnl X := fun b hb => by
          rw [ho] at hb
          split at hb
          · exact nrs_lt hb
          · cases hb
        have hok : ∀ b, o = some b → (S.2 i).1 = 0 := fun b hb => by
          rw [ho] at hb
          split at hb
          · assumption
          · cases hb
        have hB8 : F6 18 (8 * (i / xwd X p) + i % xwd X p) = cbr (S.2 i) := hb6 i hi2
        obtain ⟨am, hame⟩ : ∃ am, am = FP.fadd (FP.i2f (cwn (S.2 i))) (cbr (S.2 i)) := ⟨_, rfl⟩
        rw [← hame] at ham hl1 ho hds ih
        obtain ⟨T, hT⟩ : ∃ T, T = ds0 (xnl X) S.1 S.2 i := ⟨_, rfl⟩
        have hcam : cam (T.2 i) = am := by rw [hT, d0_am, hame]
        rw [← hT] at hPI3 hl1 hnq2 hb7 hds ih
        have m0 := r6.m0
        have m10 := r6.m10
        have m11 := r6.m11
        have m12 := r6.m12
        have m15 := r6.m15
        have m18 := r6.m18
        have hqc := cx_lt (p := p) w1 w2 g2 (by omega) hi2
        obtain ⟨p1, p2⟩ : I6 10 p = nI (xwd X p) ∧ I6 11 p = nI (xhg X p) := hP6.2.2.1 p hp
        have hqc6 : PRc I6 F6 (cx (xwd X p) p i) (S.2 i) := by
          have := hP6.2.2.2.1 p hp i hi
          rw [show xg (xpl X p S.1 S.2) p i = S.2 i from congrFun (fset_s (xg X) p S.2) i] at this
          exact this
        obtain ⟨q1, q2, q3, q4, q5, q6⟩ := hqc6
        have hdiv : i / xwd X p < xhg X p := k_div hi2
        have hmod : i % xwd X p < xwd X p := k_mod w1
        have hL6 : ∀ j, j < xnl X → PRl I6 F6 j (S.1 j) := hP6.1
        have n1 : vf_n32 (FP.fadd (FP.i2f (cwn (S.2 i))) (cbr (S.2 i))) := by rw [← hame]; exact fb_n32 ham.1
        have hP7 : PR (xpl X p S.1 (fset S.2 i (cdA (S.2 i) am))) I6 (fset F6 15 (fset (F6 15) (cx (xwd X p) p i) am)) := hP6.upd hd hp hi hL6 hP6.2.1 ⟨rfl, rfl, rfl, rfl, rfl, rfl, rfl, rfl⟩ ⟨q1, q2, q3, fset_s _ _ _, q5, q6⟩ (fun c hc => ⟨rfl, rfl, rfl, rfl, rfl, fset_n hc⟩)
        refine V_join 261 (fun h8 ls8 st8 => (∃ I8 F8, MR cA A I8 F8 (mnn X 0) h8 ∧ PR (xpl X p T.1 (passG (xwd X p) (xhg X p) i T.2 (lackC T.1 (T.2 i) am))) I8 F8 ∧ bR (xwd X p) (xwd X p * xhg X p) (passG (xwd X p) (xhg X p) i T.2 (lackC T.1 (T.2 i) am)) (F8 18)) ∧ mfr h h8 ∧ ls8 = [some (.ref (A 0)), some (.int (nI p)), some (.int (nI i)), none, none, none, none] ∧ st8 = []) ?_ (fun hj261 => ?_)
        · rintro h8 ls8 st8 ⟨hb8, f8, rfl, rfl⟩
          refine V_iinc2 (v := nI (i + 1)) C dX5_design_261 (nI_1 _) (by decide) ?_
          refine V_goto (tgt := 88) C dX5_design_264 (by decide) ?_
          exact V_wk (by simp [lle]) (ih _ _ ⟨hb8, f8, rfl⟩)
        refine V_join 222 (fun h8 ls8 st8 => (∃ I8, MR cA A I8 (fset F6 15 (fset (F6 15) (cx (xwd X p) p i) am)) (mnn X 0) h8 ∧ PR (xpl X p T.1 T.2) I8 (fset F6 15 (fset (F6 15) (cx (xwd X p) p i) am))) ∧ mfr h h8 ∧ ls8 = [some (.ref (A 0)), some (.int (nI p)), some (.int (nI i)), some (.int (nI (i % xwd X p))), some (.int (nI (i / xwd X p))), some (.int (nI (cx (xwd X p) p i))), none] ∧ st8 = []) ?_ (fun hj222 => ?_)
        · rintro h8 ls8 st8 ⟨⟨I8, r8, hP8⟩, f8, rfl, rfl⟩
          have m0 := r8.m0
          have m14 := r8.m14
          have m15 := r8.m15
          have m3 := r8.m3
          obtain ⟨p1, p2⟩ : I8 10 p = nI (xwd X p) ∧ I8 11 p = nI (xhg X p) := hP8.2.2.1 p hp
          have hqc8 : PRc I8 (fset F6 15 (fset (F6 15) (cx (xwd X p) p i) am)) (cx (xwd X p) p i) (T.2 i) := by
            have := hP8.2.2.2.1 p hp i hi
            rw [show xg (xpl X p T.1 T.2) p i = T.2 i from congrFun (fset_s (xg X) p T.2) i] at this
            exact this
          obtain ⟨t1, t2, t3, t4, t5, t6⟩ := hqc8
          rw [hcam] at t4
          rcases hcl : clt (T.2 i) with _ | b
          · rw [hcl] at t3
            have e9 : passG (xwd X p) (xhg X p) i T.2 (lackC T.1 (T.2 i) am) = T.2 := by
              rw [show lackC T.1 (T.2 i) am = FP.fconst0 by unfold lackC; rw [hcl]]
              exact pass_0
            rw [e9] at hj261
            refine V_aload_n (i := 0) C dX5_design_222 rfl rfl ?_
            refine V_get (ci := 5) (CN := RX5) (T := TX5) (N := 26) C dX5_design_223 (by first | assumption | exact hset_s _ _ _) rfl 14 (by decide) flX5_design_42 wiX5_design_X5 (by rfl) ?_
            refine V_iload C dX5_design_226 rfl ?_
            refine V_ialdK C dX5_design_228 (by first | assumption | exact hset_s _ _ _) rfl hqc (by decide) t3 ?_
            refine V_iconst (v := (-1)) C dX5_design_229 (by decide) ?_
            refine V_icmp_eq (tgt := 261) C dX5_design_230 (by decide) (fun _ => ?_) (fun z9 => absurd rfl z9)
            exact V_wk (ls2 := [some (.ref (A 0)), some (.int (nI p)), some (.int (nI i)), none, none, none, none]) (by simp [lle]) (hj261 _ _ _ ⟨⟨I8, _, r8, hP8, hb7⟩, f8, rfl, rfl⟩)
          · rw [hcl] at t3
            have hbl := (hPI3.1 i hi).1 b hcl
            have hu1 := (hP8.1 b hbl).1
            have e9 : lackC T.1 (T.2 i) am = FP.fsub am (ltn (T.1 b)) := by unfold lackC; rw [hcl]
            rw [e9] at hj261 hl1
            have n2 := fb_n32 hl1
            refine V_aload_n (i := 0) C dX5_design_222 rfl rfl ?_
            refine V_get (ci := 5) (CN := RX5) (T := TX5) (N := 26) C dX5_design_223 (by first | assumption | exact hset_s _ _ _) rfl 14 (by decide) flX5_design_42 wiX5_design_X5 (by rfl) ?_
            refine V_iload C dX5_design_226 rfl ?_
            refine V_ialdK C dX5_design_228 (by first | assumption | exact hset_s _ _ _) rfl hqc (by decide) t3 ?_
            refine V_iconst (v := (-1)) C dX5_design_229 (by decide) ?_
            refine V_icmp_eq (tgt := 261) C dX5_design_230 (by decide) (fun z9 => absurd z9 (m1_ne b (by omega))) (fun _ => ?_)
            refine V_aload_n (i := 0) C dX5_design_233 rfl rfl ?_
            refine V_iload_n (i := 1) C dX5_design_234 rfl rfl ?_
            refine V_iload_n (i := 3) C dX5_design_235 rfl rfl ?_
            refine V_iload C dX5_design_236 rfl ?_
            refine V_aload_n (i := 0) C dX5_design_238 rfl rfl ?_
            refine V_get (ci := 5) (CN := RX5) (T := TX5) (N := 26) C dX5_design_239 (by first | assumption | exact hset_s _ _ _) rfl 15 (by decide) flX5_design_45 wiX5_design_X5 (by rfl) ?_
            refine V_iload C dX5_design_242 rfl ?_
            refine V_faldK C dX5_design_244 (by first | assumption | exact hset_s _ _ _) rfl hqc (by decide) t4 ?_
            refine V_aload_n (i := 0) C dX5_design_245 rfl rfl ?_
            refine V_get (ci := 5) (CN := RX5) (T := TX5) (N := 26) C dX5_design_246 (by first | assumption | exact hset_s _ _ _) rfl 3 (by decide) flX5_design_7 wiX5_design_X5 (by rfl) ?_
            refine V_aload_n (i := 0) C dX5_design_249 rfl rfl ?_
            refine V_get (ci := 5) (CN := RX5) (T := TX5) (N := 26) C dX5_design_250 (by first | assumption | exact hset_s _ _ _) rfl 14 (by decide) flX5_design_42 wiX5_design_X5 (by rfl) ?_
            refine V_iload C dX5_design_253 rfl ?_
            refine V_ialdK C dX5_design_255 (by first | assumption | exact hset_s _ _ _) rfl hqc (by decide) t3 ?_
            refine V_faldK C dX5_design_256 (by first | assumption | exact hset_s _ _ _) rfl (by omega) (by decide) hu1 ?_
            refine V_fsub C dX5_design_257 (by assumption) ?_
            refine V_callV (n := 4) C (r_passesOn r8 w1 w2 g2 (by omega) p1 p2 hb7 hnq2 (fb_mono hl1 (by omega))) dX5_design_258 gX5_design_X5_passesOn rfl (by first | assumption | exact hset_s _ _ _) rfl (by decide +kernel) rfl rfl (by exact Nat.le_of_ble_eq_true rfl) ⟨Nat.le_of_ble_eq_true rfl, Nat.le_of_ble_eq_true rfl⟩ ⟨Nat.le_of_ble_eq_true rfl, Nat.le_of_ble_eq_true rfl⟩ (fun v9 h9 hr9 => ?_)
            obtain ⟨rfl, ⟨B9, r9, b9⟩, f9⟩ := hr9
            exact V_wk (ls2 := [some (.ref (A 0)), some (.int (nI p)), some (.int (nI i)), none, none, none, none]) (by simp [lle]) (hj261 _ _ _ ⟨⟨I8, _, r9, (hP8.ceq (fun k _ => pass_ceq k)).f18 B9, by rw [fset_s]; exact b9⟩, f8.tr f9, rfl, rfl⟩)
        refine V_join 186 (fun h8 ls8 st8 => (MR cA A I6 (fset F6 15 (fset (F6 15) (cx (xwd X p) p i) am)) (mnn X 0) h8) ∧ mfr h h8 ∧ ls8 = [some (.ref (A 0)), some (.int (nI p)), some (.int (nI i)), some (.int (nI (i % xwd X p))), some (.int (nI (i / xwd X p))), some (.int (nI (cx (xwd X p) p i))), none] ∧ st8 = [.int (olI o)]) ?_ (fun hj186 => ?_)
        · rintro h8 ls8 st8 ⟨r8, f8, rfl, rfl⟩
          have m0 := r8.m0
          have m13 := r8.m13
          rcases o with _ | b
          · have hds : T = (S.1, fset S.2 i (cdA (S.2 i) am)) := hds
            refine V_istore6 C dX5_design_186 (by decide) ?_
            refine V_iload C dX5_design_188 rfl ?_
            refine V_iconst (v := (-1)) C dX5_design_190 (by decide) ?_
            refine V_icmp_eq (tgt := 222) C dX5_design_191 (by decide) (fun _ => ?_) (fun z9 => absurd rfl z9)
            exact V_wk (ls2 := [some (.ref (A 0)), some (.int (nI p)), some (.int (nI i)), some (.int (nI (i % xwd X p))), some (.int (nI (i / xwd X p))), some (.int (nI (cx (xwd X p) p i))), none]) (by simp [lle]) (hj222 _ _ _ ⟨⟨I6, r8, by rw [hds]; exact hP7⟩, f8, rfl, rfl⟩)
          · have hds : T = prom S.1 (fset S.2 i (cdA (S.2 i) am)) i b := hds
            have hbl := hob b rfl
            have hk0 := hok b rfl
            obtain ⟨u1, u2, u3, u4, u5, u6⟩ := hL6 b hbl
            refine V_istore6 C dX5_design_186 (by decide) ?_
            refine V_iload C dX5_design_188 rfl ?_
            refine V_iconst (v := (-1)) C dX5_design_190 (by decide) ?_
            refine V_icmp_eq (tgt := 222) C dX5_design_191 (by decide) (fun z9 => absurd z9 (m1_ne b (by omega))) (fun _ => ?_)
            refine V_aload_n (i := 0) C dX5_design_194 rfl rfl ?_
            refine V_get (ci := 5) (CN := RX5) (T := TX5) (N := 26) C dX5_design_195 (by first | assumption | exact hset_s _ _ _) rfl 13 (by decide) flX5_design_39 wiX5_design_X5 (by rfl) ?_
            refine V_iload C dX5_design_198 rfl ?_
            refine V_iconst (v := 1) C dX5_design_200 (by decide) ?_
            refine V_iastK C dX5_design_201 (by first | assumption | exact hset_s _ _ _) rfl hqc (by decide) ?_
            have r9 := r8.s13 (fset (I6 13) (cx (xwd X p) p i) 1)
            have f9 := f8.tr (r8.f13 (iarr (cA 0) 320 (fset (I6 13) (cx (xwd X p) p i) 1)))
            have m0 := r9.m0
            have m14 := r9.m14
            refine V_aload_n (i := 0) C dX5_design_202 rfl rfl ?_
            refine V_get (ci := 5) (CN := RX5) (T := TX5) (N := 26) C dX5_design_203 (by first | assumption | exact hset_s _ _ _) rfl 14 (by decide) flX5_design_42 wiX5_design_X5 (by rfl) ?_
            refine V_iload C dX5_design_206 rfl ?_
            refine V_iload C dX5_design_208 rfl ?_
            refine V_iastK C dX5_design_210 (by first | assumption | exact hset_s _ _ _) rfl hqc (by decide) ?_
            have ra := r9.s14 (fset (I6 14) (cx (xwd X p) p i) (nI b))
            have fa := f9.tr (r9.f14 (iarr (cA 0) 320 (fset (I6 14) (cx (xwd X p) p i) (nI b))))
            have m0 := ra.m0
            have m7 := ra.m7
            refine V_aload_n (i := 0) C dX5_design_211 rfl rfl ?_
            refine V_get (ci := 5) (CN := RX5) (T := TX5) (N := 26) C dX5_design_212 (by first | assumption | exact hset_s _ _ _) rfl 7 (by decide) flX5_design_24 wiX5_design_X5 (by rfl) ?_
            refine V_iload C dX5_design_215 rfl ?_
            refine V_dup2 C dX5_design_217 rfl rfl ?_
            refine V_ialdK C dX5_design_218 (by first | assumption | exact hset_s _ _ _) rfl (by omega) (by decide) rfl ?_
            refine V_iconst (v := 1) C dX5_design_219 (by decide) ?_
            refine V_iadd C dX5_design_220 ?_
            refine V_iastK C dX5_design_221 (by first | assumption | exact hset_s _ _ _) rfl (by omega) (by decide) ?_
            have rb := ra.s7 (fset (I6 7) b (I6 7 b + 1))
            have fb2 := fa.tr (ra.f7 (iarr (cA 0) 12 (fset (I6 7) b (I6 7 b + 1))))
            have hPb : PR (xpl X p T.1 T.2) (fset (fset (fset I6 13 (fset (I6 13) (cx (xwd X p) p i) 1)) 14 (fset (I6 14) (cx (xwd X p) p i) (nI b))) 7 (fset (I6 7) b (I6 7 b + 1))) (fset F6 15 (fset (F6 15) (cx (xwd X p) p i) am)) := by
              rw [hds]
              refine hP7.upd hd hp hi (PRl.put (X := X) (L := S.1) (I := I6) (F := F6) hL6 ⟨u1, u2, u3, (fset_s _ _ _).trans (by rw [u4]; rfl), u5, ?_⟩ (fun j hj => ⟨rfl, rfl, rfl, rfl, fset_n hj, rfl⟩)) (fun j hj1 hj2 => ⟨(fset_n (by omega)).trans (hP6.2.1 j hj1 hj2).1, (hP6.2.1 j hj1 hj2).2⟩) ⟨rfl, rfl, rfl, rfl, rfl, rfl, rfl, rfl⟩ ?_ (fun c hc => ⟨rfl, fset_n hc, fset_n hc, rfl, rfl, rfl⟩)
              · show I6 4 b - fset (I6 7) b (I6 7 b + 1) b - I6 8 b = llf (S.1 b) - 1
                rw [fset_s, i32_3, u6]
              · rw [fset_s]
                refine ⟨q1, fset_s _ _ _, fset_s _ _ _, fset_s _ _ _, ?_, fun z => absurd (show (1 : Int32) = 2 from z) (by decide)⟩
                show I6 16 (cx (xwd X p) p i) = if (1 : Int32) = 2 then _ else -1
                rw [q5, if_neg (by rw [hk0]; decide), if_neg (by decide)]
            exact V_wk (ls2 := [some (.ref (A 0)), some (.int (nI p)), some (.int (nI i)), some (.int (nI (i % xwd X p))), some (.int (nI (i / xwd X p))), some (.int (nI (cx (xwd X p) p i))), none]) (by simp [lle]) (hj222 _ _ _ ⟨⟨_, rb, hPb⟩, fb2, rfl, rfl⟩)
        · refine V_iload_n (i := 2) C dX5_design_88 rfl rfl ?_
          refine V_aload_n (i := 0) C dX5_design_89 rfl rfl ?_
          refine V_get (ci := 5) (CN := RX5) (T := TX5) (N := 26) C dX5_design_90 (by first | assumption | exact hset_s _ _ _) rfl 10 (by decide) flX5_design_30 wiX5_design_X5 (by rfl) ?_
          refine V_iload_n (i := 1) C dX5_design_93 rfl rfl ?_
          refine V_ialdK C dX5_design_94 (by first | assumption | exact hset_s _ _ _) rfl (by omega) (by decide) p1 ?_
          refine V_aload_n (i := 0) C dX5_design_95 rfl rfl ?_
          refine V_get (ci := 5) (CN := RX5) (T := TX5) (N := 26) C dX5_design_96 (by first | assumption | exact hset_s _ _ _) rfl 11 (by decide) flX5_design_33 wiX5_design_X5 (by rfl) ?_
          refine V_iload_n (i := 1) C dX5_design_99 rfl rfl ?_
          refine V_ialdK C dX5_design_100 (by first | assumption | exact hset_s _ _ _) rfl (by omega) (by decide) p2 ?_
          refine V_imul C dX5_design_101 ?_
          rw [pk_mul]
          refine V_icmp_ge (tgt := 267) C dX5_design_102 (by decide) (fun z9 => absurd z9 (nI_ge hi (by omega))) (fun _ => ?_)
          refine V_iload_n (i := 2) C dX5_design_105 rfl rfl ?_
          refine V_aload_n (i := 0) C dX5_design_106 rfl rfl ?_
          refine V_get (ci := 5) (CN := RX5) (T := TX5) (N := 26) C dX5_design_107 (by first | assumption | exact hset_s _ _ _) rfl 10 (by decide) flX5_design_30 wiX5_design_X5 (by rfl) ?_
          refine V_iload_n (i := 1) C dX5_design_110 rfl rfl ?_
          refine V_ialdK C dX5_design_111 (by first | assumption | exact hset_s _ _ _) rfl (by omega) (by decide) p1 ?_
          refine V_irem C dX5_design_112 hw0 ?_
          rw [pk_rem (by omega) (by omega) (by omega)]
          refine V_istore3 C dX5_design_113 (by decide) ?_
          refine V_iload_n (i := 2) C dX5_design_114 rfl rfl ?_
          refine V_aload_n (i := 0) C dX5_design_115 rfl rfl ?_
          refine V_get (ci := 5) (CN := RX5) (T := TX5) (N := 26) C dX5_design_116 (by first | assumption | exact hset_s _ _ _) rfl 10 (by decide) flX5_design_30 wiX5_design_X5 (by rfl) ?_
          refine V_iload_n (i := 1) C dX5_design_119 rfl rfl ?_
          refine V_ialdK C dX5_design_120 (by first | assumption | exact hset_s _ _ _) rfl (by omega) (by decide) p1 ?_
          refine V_idiv C dX5_design_121 hw0 ?_
          rw [pk_div (by omega) (by omega) (by omega)]
          refine V_istore4 C dX5_design_122 (by decide) ?_
          refine V_iload_n (i := 1) C dX5_design_124 rfl rfl ?_
          refine V_iload_n (i := 3) C dX5_design_125 rfl rfl ?_
          refine V_iload C dX5_design_126 rfl ?_
          refine V_callS (n := 3) C (r_cellOf) dX5_design_128 gX5_design_X5_cellOf rfl (by decide +kernel) rfl rfl (by exact Nat.le_of_ble_eq_true rfl) ⟨Nat.le_of_ble_eq_true rfl, Nat.le_of_ble_eq_true rfl⟩ ⟨Nat.le_of_ble_eq_true rfl, Nat.le_of_ble_eq_true rfl⟩ (fun v9 h9 hr9 => ?_)
          obtain ⟨rfl, z9⟩ := hr9
          have z9 := z9.symm
          subst z9
          rw [show 64 * p + 8 * (i / xwd X p) + i % xwd X p = cx (xwd X p) p i from rfl]
          refine V_istore5 C dX5_design_131 (by decide) ?_
          refine V_aload_n (i := 0) C dX5_design_133 rfl rfl ?_
          refine V_get (ci := 5) (CN := RX5) (T := TX5) (N := 26) C dX5_design_134 (by first | assumption | exact hset_s _ _ _) rfl 15 (by decide) flX5_design_45 wiX5_design_X5 (by rfl) ?_
          refine V_iload C dX5_design_137 rfl ?_
          refine V_aload_n (i := 0) C dX5_design_139 rfl rfl ?_
          refine V_get (ci := 5) (CN := RX5) (T := TX5) (N := 26) C dX5_design_140 (by first | assumption | exact hset_s _ _ _) rfl 12 (by decide) flX5_design_36 wiX5_design_X5 (by rfl) ?_
          refine V_iload C dX5_design_143 rfl ?_
          refine V_ialdK C dX5_design_145 (by first | assumption | exact hset_s _ _ _) rfl hqc (by decide) q1 ?_
          refine V_i2f C dX5_design_146 ?_
          refine V_aload_n (i := 0) C dX5_design_147 rfl rfl ?_
          refine V_get (ci := 5) (CN := RX5) (T := TX5) (N := 26) C dX5_design_148 (by first | assumption | exact hset_s _ _ _) rfl 18 (by decide) flX5_design_54 wiX5_design_X5 (by rfl) ?_
          refine V_bipush (v := 8) C dX5_design_151 (by decide) ?_
          refine V_iload C dX5_design_153 rfl ?_
          refine V_imul C dX5_design_155 ?_
          refine V_iload_n (i := 3) C dX5_design_156 rfl rfl ?_
          refine V_iadd C dX5_design_157 ?_
          refine V_faldK C dX5_design_158 (by first | assumption | exact hset_s _ _ _) (hix _ _) (by omega) (by decide) hB8 ?_
          refine V_fadd C dX5_design_159 (by assumption) ?_
          rw [← hame]
          refine V_fastK C dX5_design_160 (by first | assumption | exact hset_s _ _ _) rfl hqc (by decide) ?_
          have r7 := r6.s15 (fset (F6 15) (cx (xwd X p) p i) am)
          have f7 := f6.tr (r6.f15 (farr (cA 1) 320 (fset (F6 15) (cx (xwd X p) p i) am)))
          have m0 := r7.m0
          have m13 := r7.m13
          have m15 := r7.m15
          refine V_aload_n (i := 0) C dX5_design_161 rfl rfl ?_
          refine V_get (ci := 5) (CN := RX5) (T := TX5) (N := 26) C dX5_design_162 (by first | assumption | exact hset_s _ _ _) rfl 13 (by decide) flX5_design_39 wiX5_design_X5 (by rfl) ?_
          refine V_iload C dX5_design_165 rfl ?_
          refine V_ialdK C dX5_design_167 (by first | assumption | exact hset_s _ _ _) rfl hqc (by decide) q2 ?_
          refine V_if_ne (tgt := 185) C dX5_design_168 (by decide) (fun c168 => ?_) (fun c168 => ?_)
          · have c168 : ¬ (S.2 i).1 = 0 := c168
            rw [if_neg c168] at ho
            refine V_iconst (v := (-1)) C dX5_design_185 (by decide) ?_
            exact V_wk (ls2 := [some (.ref (A 0)), some (.int (nI p)), some (.int (nI i)), some (.int (nI (i % xwd X p))), some (.int (nI (i / xwd X p))), some (.int (nI (cx (xwd X p) p i))), none]) (by simp [lle]) (hj186 _ _ _ ⟨r7, f7, rfl, by first | rfl | (rw [ho]; rfl)⟩)
          · have c168 : (S.2 i).1 = 0 := c168
            rw [if_pos c168] at ho
            refine V_aload_n (i := 0) C dX5_design_171 rfl rfl ?_
            refine V_aload_n (i := 0) C dX5_design_172 rfl rfl ?_
            refine V_get (ci := 5) (CN := RX5) (T := TX5) (N := 26) C dX5_design_173 (by first | assumption | exact hset_s _ _ _) rfl 15 (by decide) flX5_design_45 wiX5_design_X5 (by rfl) ?_
            refine V_iload C dX5_design_176 rfl ?_
            refine V_faldK C dX5_design_178 (by first | assumption | exact hset_s _ _ _) rfl hqc (by decide) (fset_s _ _ _) ?_
            refine V_callV (n := 1) C (r_nearest r7 hnl hL6 hPI2.2 (fb_mono ham.1 (by omega))) dX5_design_179 gX5_design_X5_nearest rfl (by first | assumption | exact hset_s _ _ _) rfl (by decide +kernel) rfl rfl (by exact Nat.le_of_ble_eq_true rfl) ⟨Nat.le_of_ble_eq_true rfl, Nat.le_of_ble_eq_true rfl⟩ ⟨Nat.le_of_ble_eq_true rfl, Nat.le_of_ble_eq_true rfl⟩ (fun v9 h9 hr9 => ?_)
            rw [← ho] at hr9
            obtain ⟨rfl, z9⟩ := hr9
            have z9 := z9.symm
            subst z9
            refine V_goto (tgt := 186) C dX5_design_182 (by decide) ?_
            exact V_wk (ls2 := [some (.ref (A 0)), some (.int (nI p)), some (.int (nI i)), some (.int (nI (i % xwd X p))), some (.int (nI (i / xwd X p))), some (.int (nI (cx (xwd X p) p i))), none]) (by simp [lle]) (hj186 _ _ _ ⟨r7, f7, rfl, by first | rfl | (rw [ho]; rfl)⟩)
      · rintro h6 ls6 ⟨⟨I6, F6, r6, hP6, hb6⟩, f6, rfl⟩
        have m0 := r6.m0
        have m10 := r6.m10
        have m11 := r6.m11
        obtain ⟨p1, p2⟩ : I6 10 p = nI (xwd X p) ∧ I6 11 p = nI (xhg X p) := hP6.2.2.1 p hp
        refine V_iload_n (i := 2) C dX5_design_88 rfl rfl ?_
        refine V_aload_n (i := 0) C dX5_design_89 rfl rfl ?_
        refine V_get (ci := 5) (CN := RX5) (T := TX5) (N := 26) C dX5_design_90 (by first | assumption | exact hset_s _ _ _) rfl 10 (by decide) flX5_design_30 wiX5_design_X5 (by rfl) ?_
        refine V_iload_n (i := 1) C dX5_design_93 rfl rfl ?_
        refine V_ialdK C dX5_design_94 (by first | assumption | exact hset_s _ _ _) rfl (by omega) (by decide) p1 ?_
        refine V_aload_n (i := 0) C dX5_design_95 rfl rfl ?_
        refine V_get (ci := 5) (CN := RX5) (T := TX5) (N := 26) C dX5_design_96 (by first | assumption | exact hset_s _ _ _) rfl 11 (by decide) flX5_design_33 wiX5_design_X5 (by rfl) ?_
        refine V_iload_n (i := 1) C dX5_design_99 rfl rfl ?_
        refine V_ialdK C dX5_design_100 (by first | assumption | exact hset_s _ _ _) rfl (by omega) (by decide) p2 ?_
        refine V_imul C dX5_design_101 ?_
        rw [pk_mul]
        refine V_icmp_ge (tgt := 267) C dX5_design_102 (by decide) (fun _ => ?_) (fun z9 => absurd (nI_le (Nat.le_refl _) (by omega)) z9)
        refine V_aload_n (i := 0) C dX5_design_267 rfl rfl ?_
        refine V_iload_n (i := 1) C dX5_design_268 rfl rfl ?_
        refine V_iconst (v := 1) C dX5_design_269 (by decide) ?_
        refine V_callV (n := 2) C (r_count (X := xpl X p (dsS (xwd X p) (xhg X p) (xnl X) L1 G1 (xN X p)).1 (dsS (xwd X p) (xhg X p) (xnl X) L1 G1 (xN X p)).2) r6 hd hP6 hp) dX5_design_270 gX5_design_X5_count rfl (by first | assumption | exact hset_s _ _ _) rfl (by decide +kernel) rfl rfl (by exact Nat.le_of_ble_eq_true rfl) ⟨Nat.le_of_ble_eq_true rfl, Nat.le_of_ble_eq_true rfl⟩ ⟨Nat.le_of_ble_eq_true rfl, Nat.le_of_ble_eq_true rfl⟩ (fun v9 h9 hr9 => ?_)
        rw [show xg (xpl X p (dsS (xwd X p) (xhg X p) (xnl X) L1 G1 (xN X p)).1 (dsS (xwd X p) (xhg X p) (xnl X) L1 G1 (xN X p)).2) p = (dsS (xwd X p) (xhg X p) (xnl X) L1 G1 (xN X p)).2 from fset_s _ _ _] at hr9
        obtain ⟨rfl, z9⟩ := hr9
        have z9 := z9.symm
        subst z9
        exact V_iret C dX5_design_273 hr ⟨⟨_, rfl, fun _ => rfl⟩, ⟨I6, F6, r6, hP6⟩, f6⟩ (by exact Nat.le_of_ble_eq_true rfl) (by exact Nat.le_of_ble_eq_true rfl)
    · have hcxb : ∀ k, k < xN X p → 64 * p ≤ cx (xwd X p) p k ∧ cx (xwd X p) p k < 64 * (p + 1) := fun k hk => cx_in w1 w2 g2 hk
      refine V_aload_n (i := 0) C dX5_design_0 rfl rfl ?_
      refine V_aload_n (i := 0) C dX5_design_1 rfl rfl ?_
      refine V_iload_n (i := 1) C dX5_design_2 rfl rfl ?_
      refine V_callV (n := 1) C (r_isPicX r hd) dX5_design_3 gX5_design_X5_isPicture rfl (by first | assumption | exact hset_s _ _ _) rfl (by decide +kernel) rfl rfl (by exact Nat.le_of_ble_eq_true rfl) ⟨Nat.le_of_ble_eq_true rfl, Nat.le_of_ble_eq_true rfl⟩ ⟨Nat.le_of_ble_eq_true rfl, Nat.le_of_ble_eq_true rfl⟩ (fun v9 h9 hr9 => ?_)
      rw [if_pos hx] at hr9
      obtain ⟨rfl, z9⟩ := hr9
      have z9 := z9.symm
      subst z9
      refine V_callV (n := 1) C (r_asked1 (P := True) r rfl) dX5_design_6 gX5_design_X5_asked rfl (by first | assumption | exact hset_s _ _ _) rfl (by decide +kernel) rfl rfl (by exact Nat.le_of_ble_eq_true rfl) ⟨Nat.le_of_ble_eq_true rfl, Nat.le_of_ble_eq_true rfl⟩ ⟨Nat.le_of_ble_eq_true rfl, Nat.le_of_ble_eq_true rfl⟩ (fun v9 h9 hr9 => ?_)
      obtain ⟨rfl, r2, f2⟩ := hr9
      rw [if_pos trivial] at r2
      have r2 : MR cA A I F (mnn X 0) h9 := r2
      refine V_if_ne (tgt := 14) C dX5_design_9 (by decide) (fun _ => ?_) (fun z9 => absurd z9 (by decide))
      refine V_bipush (v := 64) C dX5_design_14 (by decide) ?_
      refine V_iload_n (i := 1) C dX5_design_16 rfl rfl ?_
      refine V_imul C dX5_design_17 ?_
      rw [h64]
      refine V_istore2 C dX5_design_18 (by decide) ?_
      refine V_for 64 (fun q h4 ls4 => (∃ m, m ≤ xN X p ∧ (∀ k, k < xN X p → (k < m ↔ cx (xwd X p) p k < 64 * p + q)) ∧ ∃ I4 B, MR cA A I4 (fset F 18 B) (mnn X 0) h4 ∧ PR (xpl X p (tbS (xlo X) (xg X p) m).1 (tbS (xlo X) (xg X p) m).2) I4 F ∧ ∀ j, j < q → B j = FP.fconst0) ∧ mfr h h4 ∧ ls4 = [some (.ref (A 0)), some (.int (nI p)), some (.int (nI (64 * p + q))), none, none, none, none]) ?_ ?_ 0 (by decide) ⟨⟨0, Nat.zero_le _, fun k hk => ⟨fun z => absurd z (Nat.not_lt_zero k), fun z => by have := (hcxb k hk).1; omega⟩, I, F 18, by rw [fset_id rfl]; exact r2, hP0, fun j hj => absurd hj (Nat.not_lt_zero j)⟩, f2, rfl⟩
      · rintro q h4 ls4 hq ⟨⟨m, hm, hmk, I4, B, r4, hP4, hB⟩, f4, rfl⟩ ih
        have m0 := r4.m0
        have m13 := r4.m13
        have m18 := r4.m18
        have hsub : nI (64 * p + q) - nI (64 * p) = nI q := by
          rw [← nI_add, Int32.add_comm, Int32.add_sub_cancel]
        refine V_join 80 (fun h8 ls8 st8 => (∃ m, m ≤ xN X p ∧ (∀ k, k < xN X p → (k < m ↔ cx (xwd X p) p k < 64 * p + (q + 1))) ∧ ∃ I4 B, MR cA A I4 (fset F 18 B) (mnn X 0) h8 ∧ PR (xpl X p (tbS (xlo X) (xg X p) m).1 (tbS (xlo X) (xg X p) m).2) I4 F ∧ ∀ j, j < q + 1 → B j = FP.fconst0) ∧ mfr h h8 ∧ ls8 = [some (.ref (A 0)), some (.int (nI p)), some (.int (nI (64 * p + q))), none, none, none, none] ∧ st8 = []) ?_ (fun hj80 => ?_)
        · rintro h8 ls8 st8 ⟨hb8, f8, rfl, rfl⟩
          refine V_iinc2 (v := nI (64 * p + (q + 1))) C dX5_design_80 (nI_1 _) (by decide) ?_
          refine V_goto (tgt := 19) C dX5_design_83 (by decide) ?_
          exact V_wk (by simp [lle]) (ih _ _ ⟨hb8, f8, rfl⟩)
        have r5 := r4.s18 (fset B q FP.fconst0)
        rw [fset_fset] at r5
        have f5 := f4.tr (r4.f18 (farr (cA 1) 64 (fset B q FP.fconst0)))
        have hB5 : ∀ j, j < q + 1 → fset B q FP.fconst0 j = FP.fconst0 := fun j hj => by
          by_cases hjq : j = q
          · rw [hjq, fset_s]
          · rw [fset_n hjq]
            exact hB j (by omega)
        by_cases hv : ∃ k, k < xN X p ∧ cx (xwd X p) p k = 64 * p + q
        · obtain ⟨k, hk, hck⟩ := hv
          have hkm : m = k := by
            rcases Nat.lt_trichotomy m k with z | z | z
            · have h1 := cx_mono (p := p) w1 w2 z
              have h2 := (hmk m (by omega)).mpr (by omega)
              omega
            · exact z
            · have := (hmk k hk).mp z
              omega
          subst hkm
          have hmk2 : ∀ k, k < xN X p → (k < m + 1 ↔ cx (xwd X p) p k < 64 * p + (q + 1)) := fun k2 hk2 => by
            constructor
            · intro z
              rcases Nat.lt_succ_iff_lt_or_eq.mp z with z | z
              · have := (hmk k2 hk2).mp z
                omega
              · subst z
                omega
            · intro z
              rcases Nat.lt_trichotomy k2 m with y | y | y
              · omega
              · omega
              · have := cx_mono (p := p) w1 w2 y
                omega
          have hPIm := hPI.tbS (i := m) hm
          obtain ⟨T, hT⟩ : ∃ T, T = tbS (xlo X) (xg X p) m := ⟨_, rfl⟩
          have hstp : tbS (xlo X) (xg X p) (m + 1) = tb1 T.1 T.2 m := by rw [hT]; rfl
          rw [← hT] at hP4 hPIm
          have hqc : 64 * p + q < 320 := by omega
          have hqc4 : PRc I4 F (64 * p + q) (T.2 m) := by
            have := hP4.2.2.2.1 p hp m hk
            rw [show xg (xpl X p T.1 T.2) p m = T.2 m from congrFun (fset_s (xg X) p T.2) m] at this
            rw [← hck]
            exact this
          obtain ⟨q1, q2, q3, q4, q5, q6⟩ := hqc4
          by_cases h1 : (T.2 m).1 = 1
          · obtain ⟨b, hb⟩ := (hPIm.1 m hk).2.1 h1
            have hbl := (hPIm.1 m hk).1 b hb
            rw [hb] at q3
            have q3 : I4 14 (64 * p + q) = nI b := q3
            obtain ⟨u1, u2, u3, u4, u5, u6⟩ : PRl I4 F b (T.1 b) := hP4.1 b hbl
            rw [tb1_p h1 hb] at hstp
            refine V_iload_n (i := 2) C dX5_design_19 rfl rfl ?_
            refine V_bipush (v := 64) C dX5_design_20 (by decide) ?_
            refine V_iload_n (i := 1) C dX5_design_22 rfl rfl ?_
            refine V_iconst (v := 1) C dX5_design_23 (by decide) ?_
            refine V_iadd C dX5_design_24 ?_
            refine V_imul C dX5_design_25 ?_
            rw [nI_1, h64]
            refine V_icmp_ge (tgt := 86) C dX5_design_26 (by decide) (fun z9 => absurd z9 (nI_ge (by omega) (by omega))) (fun _ => ?_)
            refine V_aload_n (i := 0) C dX5_design_29 rfl rfl ?_
            refine V_get (ci := 5) (CN := RX5) (T := TX5) (N := 26) C dX5_design_30 (by first | assumption | exact hset_s _ _ _) rfl 18 (by decide) flX5_design_54 wiX5_design_X5 (by rfl) ?_
            refine V_iload_n (i := 2) C dX5_design_33 rfl rfl ?_
            refine V_bipush (v := 64) C dX5_design_34 (by decide) ?_
            refine V_iload_n (i := 1) C dX5_design_36 rfl rfl ?_
            refine V_imul C dX5_design_37 ?_
            rw [h64]
            refine V_isub C dX5_design_38 ?_
            refine V_fconst0 C dX5_design_39 ?_
            refine V_fastK C dX5_design_40 (by first | assumption | exact hset_s _ _ _) hsub hq (by decide) ?_
            have m0 := r5.m0
            have m13 := r5.m13
            have m14 := r5.m14
            have m7 := r5.m7
            refine V_aload_n (i := 0) C dX5_design_41 rfl rfl ?_
            refine V_get (ci := 5) (CN := RX5) (T := TX5) (N := 26) C dX5_design_42 (by first | assumption | exact hset_s _ _ _) rfl 13 (by decide) flX5_design_39 wiX5_design_X5 (by rfl) ?_
            refine V_iload_n (i := 2) C dX5_design_45 rfl rfl ?_
            refine V_ialdK C dX5_design_46 (by first | assumption | exact hset_s _ _ _) rfl hqc (by decide) (q2.trans h1) ?_
            refine V_iconst (v := 1) C dX5_design_47 (by decide) ?_
            refine V_icmp_ne (tgt := 80) C dX5_design_48 (by decide) (fun z9 => absurd rfl z9) (fun _ => ?_)
            refine V_aload_n (i := 0) C dX5_design_51 rfl rfl ?_
            refine V_get (ci := 5) (CN := RX5) (T := TX5) (N := 26) C dX5_design_52 (by first | assumption | exact hset_s _ _ _) rfl 7 (by decide) flX5_design_24 wiX5_design_X5 (by rfl) ?_
            refine V_aload_n (i := 0) C dX5_design_55 rfl rfl ?_
            refine V_get (ci := 5) (CN := RX5) (T := TX5) (N := 26) C dX5_design_56 (by first | assumption | exact hset_s _ _ _) rfl 14 (by decide) flX5_design_42 wiX5_design_X5 (by rfl) ?_
            refine V_iload_n (i := 2) C dX5_design_59 rfl rfl ?_
            refine V_ialdK C dX5_design_60 (by first | assumption | exact hset_s _ _ _) rfl hqc (by decide) q3 ?_
            refine V_dup2 C dX5_design_61 rfl rfl ?_
            refine V_ialdK C dX5_design_62 (by first | assumption | exact hset_s _ _ _) rfl (by omega) (by decide) rfl ?_
            refine V_iconst (v := 1) C dX5_design_63 (by decide) ?_
            refine V_isub C dX5_design_64 ?_
            refine V_iastK C dX5_design_65 (by first | assumption | exact hset_s _ _ _) rfl (by omega) (by decide) ?_
            have r6 := r5.s7 (fset (I4 7) b (I4 7 b - 1))
            have f6 := f5.tr (r5.f7 (iarr (cA 0) 12 (fset (I4 7) b (I4 7 b - 1))))
            have m0 := r6.m0
            have m14 := r6.m14
            refine V_aload_n (i := 0) C dX5_design_66 rfl rfl ?_
            refine V_get (ci := 5) (CN := RX5) (T := TX5) (N := 26) C dX5_design_67 (by first | assumption | exact hset_s _ _ _) rfl 14 (by decide) flX5_design_42 wiX5_design_X5 (by rfl) ?_
            refine V_iload_n (i := 2) C dX5_design_70 rfl rfl ?_
            refine V_iconst (v := (-1)) C dX5_design_71 (by decide) ?_
            refine V_iastK C dX5_design_72 (by first | assumption | exact hset_s _ _ _) rfl hqc (by decide) ?_
            have r7 := r6.s14 (fset (I4 14) (64 * p + q) (-1))
            have f7 := f6.tr (r6.f14 (iarr (cA 0) 320 (fset (I4 14) (64 * p + q) (-1))))
            have m0 := r7.m0
            have m13 := r7.m13
            refine V_aload_n (i := 0) C dX5_design_73 rfl rfl ?_
            refine V_get (ci := 5) (CN := RX5) (T := TX5) (N := 26) C dX5_design_74 (by first | assumption | exact hset_s _ _ _) rfl 13 (by decide) flX5_design_39 wiX5_design_X5 (by rfl) ?_
            refine V_iload_n (i := 2) C dX5_design_77 rfl rfl ?_
            refine V_iconst (v := 0) C dX5_design_78 (by decide) ?_
            refine V_iastK C dX5_design_79 (by first | assumption | exact hset_s _ _ _) rfl hqc (by decide) ?_
            have r8 := r7.s13 (fset (I4 13) (64 * p + q) 0)
            have f8 := f7.tr (r7.f13 (iarr (cA 0) 320 (fset (I4 13) (64 * p + q) 0)))
            have hPb : PR (xpl X p (tbS (xlo X) (xg X p) (m + 1)).1 (tbS (xlo X) (xg X p) (m + 1)).2) (fset (fset (fset I4 7 (fset (I4 7) b (I4 7 b - 1))) 14 (fset (I4 14) (64 * p + q) (-1))) 13 (fset (I4 13) (64 * p + q) 0)) F := by
              rw [hstp]
              refine hP4.upd hd hp hk (PRl.put (X := X) (L := T.1) (I := I4) (F := F) hP4.1 ⟨u1, u2, u3, (fset_s _ _ _).trans (by rw [u4]; rfl), u5, ?_⟩ (fun j hj => ⟨rfl, rfl, rfl, rfl, fset_n hj, rfl⟩)) (fun j hj1 hj2 => ⟨(fset_n (by omega)).trans (hP4.2.1 j hj1 hj2).1, (hP4.2.1 j hj1 hj2).2⟩) ⟨rfl, rfl, rfl, rfl, rfl, rfl, rfl, rfl⟩ ?_ (fun c hc => by rw [hck] at hc; exact ⟨rfl, fset_n hc, fset_n hc, rfl, rfl, rfl⟩)
              · show I4 4 b - fset (I4 7) b (I4 7 b - 1) b - I4 8 b = llf (T.1 b) + 1
                rw [fset_s, i32_2, u6]
              · rw [hck]
                refine ⟨q1, fset_s _ _ _, fset_s _ _ _, q4, ?_, fun z => absurd (show (0 : Int32) = 2 from z) (by decide)⟩
                show I4 16 (64 * p + q) = if (0 : Int32) = 2 then _ else -1
                rw [q5, if_neg (by rw [h1]; decide), if_neg (by decide)]
            exact hj80 _ _ _ ⟨⟨m + 1, by omega, hmk2, _, _, r8, hPb, hB5⟩, f8, rfl, rfl⟩
          · have hstp : tbS (xlo X) (xg X p) (m + 1) = T := by
              rw [hstp]
              unfold tb1
              rw [if_neg h1]
            have q2 : I4 13 (64 * p + q) = (T.2 m).1 := q2
            refine V_iload_n (i := 2) C dX5_design_19 rfl rfl ?_
            refine V_bipush (v := 64) C dX5_design_20 (by decide) ?_
            refine V_iload_n (i := 1) C dX5_design_22 rfl rfl ?_
            refine V_iconst (v := 1) C dX5_design_23 (by decide) ?_
            refine V_iadd C dX5_design_24 ?_
            refine V_imul C dX5_design_25 ?_
            rw [nI_1, h64]
            refine V_icmp_ge (tgt := 86) C dX5_design_26 (by decide) (fun z9 => absurd z9 (nI_ge (by omega) (by omega))) (fun _ => ?_)
            refine V_aload_n (i := 0) C dX5_design_29 rfl rfl ?_
            refine V_get (ci := 5) (CN := RX5) (T := TX5) (N := 26) C dX5_design_30 (by first | assumption | exact hset_s _ _ _) rfl 18 (by decide) flX5_design_54 wiX5_design_X5 (by rfl) ?_
            refine V_iload_n (i := 2) C dX5_design_33 rfl rfl ?_
            refine V_bipush (v := 64) C dX5_design_34 (by decide) ?_
            refine V_iload_n (i := 1) C dX5_design_36 rfl rfl ?_
            refine V_imul C dX5_design_37 ?_
            rw [h64]
            refine V_isub C dX5_design_38 ?_
            refine V_fconst0 C dX5_design_39 ?_
            refine V_fastK C dX5_design_40 (by first | assumption | exact hset_s _ _ _) hsub hq (by decide) ?_
            have m0 := r5.m0
            have m13 := r5.m13
            refine V_aload_n (i := 0) C dX5_design_41 rfl rfl ?_
            refine V_get (ci := 5) (CN := RX5) (T := TX5) (N := 26) C dX5_design_42 (by first | assumption | exact hset_s _ _ _) rfl 13 (by decide) flX5_design_39 wiX5_design_X5 (by rfl) ?_
            refine V_iload_n (i := 2) C dX5_design_45 rfl rfl ?_
            refine V_ialdK C dX5_design_46 (by first | assumption | exact hset_s _ _ _) rfl hqc (by decide) q2 ?_
            refine V_iconst (v := 1) C dX5_design_47 (by decide) ?_
            refine V_icmp_ne (tgt := 80) C dX5_design_48 (by decide) (fun _ => ?_) (fun z9 => absurd z9 h1)
            exact hj80 _ _ _ ⟨⟨m + 1, by omega, hmk2, I4, _, r5, by rw [hstp]; exact hP4, hB5⟩, f5, rfl, rfl⟩
        · have h0 : I4 13 (64 * p + q) = 0 := Classical.not_not.mp (fun z => by
            obtain ⟨p3, hp3, k, hk, hc⟩ := hP4.2.2.2.2.1 (64 * p + q) (by omega) z
            have hp3 : p3 < xnp X := hp3
            have hk : k < xN X p3 := hk
            have hc : 64 * p + q = cx (xwd X p3) p3 k := hc
            obtain ⟨⟨w3, w4⟩, g3, g4⟩ := hd.2.2 p3 hp3
            have h2 := cx_in (p := p3) w3 w4 g4 hk
            have h3 : p3 = p := by omega
            subst h3
            exact hv ⟨k, hk, hc.symm⟩)
          have hmk2 : ∀ k, k < xN X p → (k < m ↔ cx (xwd X p) p k < 64 * p + (q + 1)) := fun k2 hk2 => by
            have h1 := hmk k2 hk2
            have h2 : ¬ cx (xwd X p) p k2 = 64 * p + q := fun z => hv ⟨k2, hk2, z⟩
            omega
          refine V_iload_n (i := 2) C dX5_design_19 rfl rfl ?_
          refine V_bipush (v := 64) C dX5_design_20 (by decide) ?_
          refine V_iload_n (i := 1) C dX5_design_22 rfl rfl ?_
          refine V_iconst (v := 1) C dX5_design_23 (by decide) ?_
          refine V_iadd C dX5_design_24 ?_
          refine V_imul C dX5_design_25 ?_
          rw [nI_1, h64]
          refine V_icmp_ge (tgt := 86) C dX5_design_26 (by decide) (fun z9 => absurd z9 (nI_ge (by omega) (by omega))) (fun _ => ?_)
          refine V_aload_n (i := 0) C dX5_design_29 rfl rfl ?_
          refine V_get (ci := 5) (CN := RX5) (T := TX5) (N := 26) C dX5_design_30 (by first | assumption | exact hset_s _ _ _) rfl 18 (by decide) flX5_design_54 wiX5_design_X5 (by rfl) ?_
          refine V_iload_n (i := 2) C dX5_design_33 rfl rfl ?_
          refine V_bipush (v := 64) C dX5_design_34 (by decide) ?_
          refine V_iload_n (i := 1) C dX5_design_36 rfl rfl ?_
          refine V_imul C dX5_design_37 ?_
          rw [h64]
          refine V_isub C dX5_design_38 ?_
          refine V_fconst0 C dX5_design_39 ?_
          refine V_fastK C dX5_design_40 (by first | assumption | exact hset_s _ _ _) hsub hq (by decide) ?_
          have m0 := r5.m0
          have m13 := r5.m13
          refine V_aload_n (i := 0) C dX5_design_41 rfl rfl ?_
          refine V_get (ci := 5) (CN := RX5) (T := TX5) (N := 26) C dX5_design_42 (by first | assumption | exact hset_s _ _ _) rfl 13 (by decide) flX5_design_39 wiX5_design_X5 (by rfl) ?_
          refine V_iload_n (i := 2) C dX5_design_45 rfl rfl ?_
          refine V_ialdK C dX5_design_46 (by first | assumption | exact hset_s _ _ _) rfl (by omega) (by decide) h0 ?_
          refine V_iconst (v := 1) C dX5_design_47 (by decide) ?_
          refine V_icmp_ne (tgt := 80) C dX5_design_48 (by decide) (fun _ => ?_) (fun z9 => absurd z9 (by decide))
          exact hj80 _ _ _ ⟨⟨m, hm, hmk2, I4, _, r5, hP4, hB5⟩, f5, rfl, rfl⟩
      · rintro h4 ls4 ⟨⟨m, hm, hmk, I4, B, r4, hP4, hB⟩, f4, rfl⟩
        have hmN : m = xN X p := by
          rcases Nat.lt_or_eq_of_le hm with z | z
          · have := (hmk m z).mpr (by have := (hcxb m z).2; omega)
            omega
          · exact z
        subst hmN
        refine V_iload_n (i := 2) C dX5_design_19 rfl rfl ?_
        refine V_bipush (v := 64) C dX5_design_20 (by decide) ?_
        refine V_iload_n (i := 1) C dX5_design_22 rfl rfl ?_
        refine V_iconst (v := 1) C dX5_design_23 (by decide) ?_
        refine V_iadd C dX5_design_24 ?_
        refine V_imul C dX5_design_25 ?_
        rw [nI_1, h64]
        refine V_icmp_ge (tgt := 86) C dX5_design_26 (by decide) (fun _ => ?_) (fun z9 => absurd (nI_le (by omega) (by omega)) z9)
        exact V_wk (ls2 := [some (.ref (A 0)), some (.int (nI p)), none, none, none, none, none]) (by simp [lle]) (hj86 _ _ _ ⟨⟨I4, B, r4, hP4, hB⟩, f4, rfl, rfl⟩)
  · have e : sp_design X x = (some kIO, 0, X) := by unfold sp_design; rw [if_neg hx]
    rw [e]
    refine Mt_of (cc := cX5_design) (maxL := 7) (ret := (some .int)) (own := RX5) [some (.ref (A 0)), some (.int x), none, none, none, none, none] rfl (by decide +kernel) rfl rfl (by exact Nat.le_of_ble_eq_true rfl) rfl ?_
    intro p9 e9 s9 m9 args9 below9 meth9 c9 C hr hnm
    refine V_aload_n (i := 0) C dX5_design_0 rfl rfl ?_
    refine V_aload_n (i := 0) C dX5_design_1 rfl rfl ?_
    refine V_iload_n (i := 1) C dX5_design_2 rfl rfl ?_
    refine V_callV (n := 1) C (r_isPicX r hd) dX5_design_3 gX5_design_X5_isPicture rfl (by first | assumption | exact hset_s _ _ _) rfl (by decide +kernel) rfl rfl (by exact Nat.le_of_ble_eq_true rfl) ⟨Nat.le_of_ble_eq_true rfl, Nat.le_of_ble_eq_true rfl⟩ ⟨Nat.le_of_ble_eq_true rfl, Nat.le_of_ble_eq_true rfl⟩ (fun v9 h9 hr9 => ?_)
    rw [if_neg hx] at hr9
    obtain ⟨rfl, z9⟩ := hr9
    have z9 := z9.symm
    subst z9
    refine V_callV (n := 1) C (r_asked1 (P := False) r rfl) dX5_design_6 gX5_design_X5_asked rfl (by first | assumption | exact hset_s _ _ _) rfl (by decide +kernel) rfl rfl (by exact Nat.le_of_ble_eq_true rfl) ⟨Nat.le_of_ble_eq_true rfl, Nat.le_of_ble_eq_true rfl⟩ ⟨Nat.le_of_ble_eq_true rfl, Nat.le_of_ble_eq_true rfl⟩ (fun v9 h9 hr9 => ?_)
    obtain ⟨rfl, r2, f2⟩ := hr9
    rw [if_neg (fun z => z)] at r2
    refine V_if_ne (tgt := 14) C dX5_design_9 (by decide) (fun z9 => absurd rfl z9) (fun _ => ?_)
    refine V_iconst (v := 0) C dX5_design_12 (by decide) ?_
    exact V_iret C dX5_design_13 hr (Rst_x r2 hP f2 (by decide +kernel)) (by exact Nat.le_of_ble_eq_true rfl) (by exact Nat.le_of_ble_eq_true rfl)
end RPUB11
